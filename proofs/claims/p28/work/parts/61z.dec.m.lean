/-! 61z.dec, 62a.dec, 62b.dec, 62c.dec, 62d.dec -/
section
/-! Methods as functions, and that they do what these do. -/
/-! M_law (I)I -/
-- names: 0 StarTalesModel('arg', 0), 1 (1, 220)(0, 12, 3), 2 (0, 14)(0, 12, 16), 3 (0, 14)(0, 12, 17), 4 (0, 14)(0, 12, 18), 5 (0, 220)(0, 12, 15), 6 (0, 220)(0, 12, 14), 7 (0, 14)(0, 12, 19), 8 (0, 220)(0, 12, 20), 9 (0, 14)(0, 12, 21), 10 (0, 14)(0, 12, 22), 11 (0, 14)(0, 12, 23), 12 (0, 14)(0, 12, 24)
-- fields: f0 = 0.taped_, f1 = 0.place0_, f2 = 0.length0_, f3 = 0.codeMany_, f4 = 0.saidMany_, f5 = 0.open_, f6 = 0.waiting_, f7 = 0.fault_, f8 = 0.number0_, f9 = 0.clauses_; arrays: g0 = 1, g1 = 2, g2 = 3, g3 = 4, g4 = 5, g5 = 6, g6 = 7, g7 = 8, g8 = 9, g9 = 10, g10 = 11, g11 = 12; out: [('ret', None), ('f', 0), ('f', 1), ('f', 2), ('f', 3), ('f', 4), ('f', 5), ('f', 6), ('f', 7), ('f', 8), ('f', 9), ('g', 1), ('g', 2), ('g', 3), ('g', 4), ('g', 5), ('g', 6), ('g', 7), ('g', 8), ('g', 9), ('g', 10), ('g', 11)]
abbrev zy_M_law : zNL := (13, [(0, 12)], [(0, 12, 4, 0), (0, 12, 5, 1), (0, 12, 6, 2), (0, 12, 9, 3), (0, 12, 11, 4), (0, 12, 8, 5), (0, 12, 10, 6), (0, 12, 7, 7), (0, 12, 12, 8), (0, 12, 13, 9)], [(0, 12, 3, 1), (0, 12, 16, 2), (0, 12, 17, 3), (0, 12, 18, 4), (0, 12, 15, 5), (0, 12, 14, 6), (0, 12, 19, 7), (0, 12, 20, 8), (0, 12, 21, 9), (0, 12, 22, 10), (0, 12, 23, 11), (0, 12, 24, 12)], [(1, 1, 220, 0), (2, 0, 14, 1), (3, 0, 14, 2), (4, 0, 14, 3), (5, 0, 220, 4), (6, 0, 220, 5), (7, 0, 14, 6), (8, 0, 220, 7), (9, 0, 14, 8), (10, 0, 14, 9), (11, 0, 14, 10), (12, 0, 14, 11)])
theorem zyw_M_law : zv_wf zy_M_law = true := by decide +kernel
theorem zye_M_law : zv_ek2 zy_M_law = true := by decide +kernel
def zf_M_law_l0_b (f2 : Int) (g0 : (Int → Int)) (rec : Int → Int → Int → Int → Int → Int → Int → Int → (Int → Int) → (Int → Int) → (Int → Int) → (Int → Int) → (Int → Int) → (Int → Int) → Option (Int × Int × Int × Int × Int × Int × Int × Int × (Int → Int) × (Int → Int) × (Int → Int) × (Int → Int) × (Int → Int) × (Int → Int))) (x2 : Int) (f1 : Int) (f3 : Int) (f4 : Int) (f5 : Int) (f6 : Int) (f7 : Int) (f8 : Int) (g1 : (Int → Int)) (g2 : (Int → Int)) (g3 : (Int → Int)) (g4 : (Int → Int)) (g5 : (Int → Int)) (g6 : (Int → Int)) : Option (Int × Int × Int × Int × Int × Int × Int × Int × (Int → Int) × (Int → Int) × (Int → Int) × (Int → Int) × (Int → Int) × (Int → Int)) := if x2 = 0 then (some (x2, f1, f3, f4, f5, f6, f7, f8, g1, g2, g3, g4, g5, g6)) else (if f1 < f2 then ((zf_M_takes 59 f1 f2 f7 g0).bind fun r7 => (if r7.1 = 0 then (rec 0 r7.2.1 f3 f4 f5 f6 r7.2.2 f8 g1 g2 g3 g4 g5 g6) else ((zf_M_readsClause r7.2.1 f2 f4 f3 f5 f6 r7.2.2 f8 g0 g1 g2 g3 g4 g5 g6).bind fun r9 => (if r9.1 = 0 then (rec 0 r9.2.1 r9.2.2.2.1 r9.2.2.1 r9.2.2.2.2.1 r9.2.2.2.2.2.1 r9.2.2.2.2.2.2.1 r9.2.2.2.2.2.2.2.1 r9.2.2.2.2.2.2.2.2.1 r9.2.2.2.2.2.2.2.2.2.1 r9.2.2.2.2.2.2.2.2.2.2.1 r9.2.2.2.2.2.2.2.2.2.2.2.1 r9.2.2.2.2.2.2.2.2.2.2.2.2.1 r9.2.2.2.2.2.2.2.2.2.2.2.2.2) else (rec 1 r9.2.1 r9.2.2.2.1 r9.2.2.1 r9.2.2.2.2.1 r9.2.2.2.2.2.1 r9.2.2.2.2.2.2.1 r9.2.2.2.2.2.2.2.1 r9.2.2.2.2.2.2.2.2.1 r9.2.2.2.2.2.2.2.2.2.1 r9.2.2.2.2.2.2.2.2.2.2.1 r9.2.2.2.2.2.2.2.2.2.2.2.1 r9.2.2.2.2.2.2.2.2.2.2.2.2.1 r9.2.2.2.2.2.2.2.2.2.2.2.2.2))))) else (some (x2, f1, f3, f4, f5, f6, f7, f8, g1, g2, g3, g4, g5, g6)))
def zf_M_law_l0 (f2 : Int) (g0 : (Int → Int)) : Nat → Int → Int → Int → Int → Int → Int → Int → Int → (Int → Int) → (Int → Int) → (Int → Int) → (Int → Int) → (Int → Int) → (Int → Int) → Option (Int × Int × Int × Int × Int × Int × Int × Int × (Int → Int) × (Int → Int) × (Int → Int) × (Int → Int) × (Int → Int) × (Int → Int))
  | 0, _, _, _, _, _, _, _, _, _, _, _, _, _, _ => none
  | n + 1, x2, f1, f3, f4, f5, f6, f7, f8, g1, g2, g3, g4, g5, g6 => zf_M_law_l0_b f2 g0 (zf_M_law_l0 f2 g0 n) x2 f1 f3 f4 f5 f6 f7 f8 g1 g2 g3 g4 g5 g6
def zf_M_law_l1_b (f3 : Int) (g5 : (Int → Int)) (rec : Int → (Int → Int) → Option ((Int → Int))) (x3 : Int) (g7 : (Int → Int)) : Option ((Int → Int)) := if x3 < f3 then (cond (zi_ix x3 220) (rec (zi_w (x3 + 1)) (zv_up g7 x3 (g5 x3))) none) else (some g7)
def zf_M_law_l1 (f3 : Int) (g5 : (Int → Int)) : Nat → Int → (Int → Int) → Option ((Int → Int))
  | 0, _, _ => none
  | n + 1, x3, g7 => zf_M_law_l1_b f3 g5 (zf_M_law_l1 f3 g5 n) x3 g7
def zf_M_law_l2_b (f4 : Int) (g1 : (Int → Int)) (g2 : (Int → Int)) (g3 : (Int → Int)) (g6 : (Int → Int)) (rec : Int → (Int → Int) → (Int → Int) → (Int → Int) → (Int → Int) → Option ((Int → Int) × (Int → Int) × (Int → Int) × (Int → Int))) (x3 : Int) (g8 : (Int → Int)) (g9 : (Int → Int)) (g10 : (Int → Int)) (g11 : (Int → Int)) : Option ((Int → Int) × (Int → Int) × (Int → Int) × (Int → Int)) := if x3 < f4 then (cond (zi_ix x3 14) (rec (zi_w (x3 + 1)) (zv_up g8 x3 (g1 x3)) (zv_up g9 x3 (g2 x3)) (zv_up g10 x3 (g3 x3)) (zv_up g11 x3 (g6 x3))) none) else (some (g8, g9, g10, g11))
def zf_M_law_l2 (f4 : Int) (g1 : (Int → Int)) (g2 : (Int → Int)) (g3 : (Int → Int)) (g6 : (Int → Int)) : Nat → Int → (Int → Int) → (Int → Int) → (Int → Int) → (Int → Int) → Option ((Int → Int) × (Int → Int) × (Int → Int) × (Int → Int))
  | 0, _, _, _, _, _ => none
  | n + 1, x3, g8, g9, g10, g11 => zf_M_law_l2_b f4 g1 g2 g3 g6 (zf_M_law_l2 f4 g1 g2 g3 g6 n) x3 g8 g9 g10 g11
def zf_M_law (x1 : Int) (f0 : Int) (f1 : Int) (f2 : Int) (f3 : Int) (f4 : Int) (f5 : Int) (f6 : Int) (f7 : Int) (f8 : Int) (f9 : Int) (g0 : (Int → Int)) (g1 : (Int → Int)) (g2 : (Int → Int)) (g3 : (Int → Int)) (g4 : (Int → Int)) (g5 : (Int → Int)) (g6 : (Int → Int)) (g7 : (Int → Int)) (g8 : (Int → Int)) (g9 : (Int → Int)) (g10 : (Int → Int)) (g11 : (Int → Int)) : Option (Int × Int × Int × Int × Int × Int × Int × Int × Int × Int × Int × (Int → Int) × (Int → Int) × (Int → Int) × (Int → Int) × (Int → Int) × (Int → Int) × (Int → Int) × (Int → Int) × (Int → Int) × (Int → Int) × (Int → Int)) := (zf_M_in x1 1 200).bind fun r1 => (if r1 = 0 then (some ((-1), f0, f1, f2, f3, f4, f5, f6, f7, f8, f9, g1, g2, g3, g4, g5, g6, g7, g8, g9, g10, g11)) else (if f0 < x1 then (some ((-1), f0, f1, f2, f3, f4, f5, f6, f7, f8, f9, g1, g2, g3, g4, g5, g6, g7, g8, g9, g10, g11)) else ((zf_M_readsClause 0 x1 0 0 f5 f6 f7 f8 g0 g1 g2 g3 g4 g5 g6).bind fun r4 => ((zf_M_law_l0 x1 g0 zi_fu r4.1 r4.2.1 r4.2.2.2.1 r4.2.2.1 r4.2.2.2.2.1 r4.2.2.2.2.2.1 r4.2.2.2.2.2.2.1 r4.2.2.2.2.2.2.2.1 r4.2.2.2.2.2.2.2.2.1 r4.2.2.2.2.2.2.2.2.2.1 r4.2.2.2.2.2.2.2.2.2.2.1 r4.2.2.2.2.2.2.2.2.2.2.2.1 r4.2.2.2.2.2.2.2.2.2.2.2.2.1 r4.2.2.2.2.2.2.2.2.2.2.2.2.2).bind fun q11 => (if q11.1 = 0 then (some (q11.2.2.2.2.2.2.1, 0, q11.2.1, x1, q11.2.2.1, q11.2.2.2.1, q11.2.2.2.2.1, q11.2.2.2.2.2.1, q11.2.2.2.2.2.2.1, q11.2.2.2.2.2.2.2.1, f9, q11.2.2.2.2.2.2.2.2.1, q11.2.2.2.2.2.2.2.2.2.1, q11.2.2.2.2.2.2.2.2.2.2.1, q11.2.2.2.2.2.2.2.2.2.2.2.1, q11.2.2.2.2.2.2.2.2.2.2.2.2.1, q11.2.2.2.2.2.2.2.2.2.2.2.2.2, g7, g8, g9, g10, g11)) else ((zf_M_law_l1 q11.2.2.1 q11.2.2.2.2.2.2.2.2.2.2.2.2.1 zi_fu 0 g7).bind fun q15 => ((zf_M_law_l2 q11.2.2.2.1 q11.2.2.2.2.2.2.2.2.1 q11.2.2.2.2.2.2.2.2.2.1 q11.2.2.2.2.2.2.2.2.2.2.1 q11.2.2.2.2.2.2.2.2.2.2.2.2.2 zi_fu 0 g8 g9 g10 g11).bind fun q18 => (some (q11.2.2.2.1, 0, q11.2.1, x1, q11.2.2.1, q11.2.2.2.1, q11.2.2.2.2.1, q11.2.2.2.2.2.1, q11.2.2.2.2.2.2.1, q11.2.2.2.2.2.2.2.1, q11.2.2.2.1, q11.2.2.2.2.2.2.2.2.1, q11.2.2.2.2.2.2.2.2.2.1, q11.2.2.2.2.2.2.2.2.2.2.1, q11.2.2.2.2.2.2.2.2.2.2.2.1, q11.2.2.2.2.2.2.2.2.2.2.2.2.1, q11.2.2.2.2.2.2.2.2.2.2.2.2.2, q15, q18.1, q18.2.1, q18.2.2.1, q18.2.2.2)))))))))
theorem zd215_0 : decode zxm215.2.1 0 = .ok (.iload_n 1, 1) := by decide +kernel
theorem zd215_1 : decode zxm215.2.1 1 = .ok (.iconst 1, 1) := by decide +kernel
theorem zd215_2 : decode zxm215.2.1 2 = .ok (.sipush 200, 3) := by decide +kernel
theorem zd215_5 : decode zxm215.2.1 5 = .ok (.invokestatic 150, 3) := by decide +kernel
theorem zd215_8 : decode zxm215.2.1 8 = .ok (.ifCond .eq 11, 3) := by decide +kernel
theorem zd215_11 : decode zxm215.2.1 11 = .ok (.iload_n 1, 1) := by decide +kernel
theorem zd215_12 : decode zxm215.2.1 12 = .ok (.aload_n 0, 1) := by decide +kernel
theorem zd215_13 : decode zxm215.2.1 13 = .ok (.getfield 168, 3) := by decide +kernel
theorem zd215_16 : decode zxm215.2.1 16 = .ok (.if_icmp .le 5, 3) := by decide +kernel
theorem zd215_19 : decode zxm215.2.1 19 = .ok (.iconst (-1), 1) := by decide +kernel
theorem zd215_20 : decode zxm215.2.1 20 = .ok (.ireturn, 1) := by decide +kernel
theorem zd215_21 : decode zxm215.2.1 21 = .ok (.aload_n 0, 1) := by decide +kernel
theorem zd215_22 : decode zxm215.2.1 22 = .ok (.iconst 0, 1) := by decide +kernel
theorem zd215_23 : decode zxm215.2.1 23 = .ok (.putfield 176, 3) := by decide +kernel
theorem zd215_26 : decode zxm215.2.1 26 = .ok (.aload_n 0, 1) := by decide +kernel
theorem zd215_27 : decode zxm215.2.1 27 = .ok (.iload_n 1, 1) := by decide +kernel
theorem zd215_28 : decode zxm215.2.1 28 = .ok (.putfield 179, 3) := by decide +kernel
theorem zd215_31 : decode zxm215.2.1 31 = .ok (.aload_n 0, 1) := by decide +kernel
theorem zd215_32 : decode zxm215.2.1 32 = .ok (.iconst 0, 1) := by decide +kernel
theorem zd215_33 : decode zxm215.2.1 33 = .ok (.putfield 199, 3) := by decide +kernel
theorem zd215_36 : decode zxm215.2.1 36 = .ok (.aload_n 0, 1) := by decide +kernel
theorem zd215_37 : decode zxm215.2.1 37 = .ok (.iconst 0, 1) := by decide +kernel
theorem zd215_38 : decode zxm215.2.1 38 = .ok (.putfield 256, 3) := by decide +kernel
theorem zd215_41 : decode zxm215.2.1 41 = .ok (.aload_n 0, 1) := by decide +kernel
theorem zd215_42 : decode zxm215.2.1 42 = .ok (.invokevirtual 262, 3) := by decide +kernel
theorem zd215_45 : decode zxm215.2.1 45 = .ok (.istore_n 2, 1) := by decide +kernel
theorem zd215_46 : decode zxm215.2.1 46 = .ok (.iload_n 2, 1) := by decide +kernel
theorem zd215_47 : decode zxm215.2.1 47 = .ok (.ifCond .eq 39, 3) := by decide +kernel
theorem zd215_50 : decode zxm215.2.1 50 = .ok (.aload_n 0, 1) := by decide +kernel
theorem zd215_51 : decode zxm215.2.1 51 = .ok (.getfield 176, 3) := by decide +kernel
theorem zd215_54 : decode zxm215.2.1 54 = .ok (.aload_n 0, 1) := by decide +kernel
theorem zd215_55 : decode zxm215.2.1 55 = .ok (.getfield 179, 3) := by decide +kernel
theorem zd215_58 : decode zxm215.2.1 58 = .ok (.if_icmp .ge 28, 3) := by decide +kernel
theorem zd215_61 : decode zxm215.2.1 61 = .ok (.aload_n 0, 1) := by decide +kernel
theorem zd215_62 : decode zxm215.2.1 62 = .ok (.bipush 59, 2) := by decide +kernel
theorem zd215_64 : decode zxm215.2.1 64 = .ok (.invokevirtual 265, 3) := by decide +kernel
theorem zd215_67 : decode zxm215.2.1 67 = .ok (.ifCond .eq 14, 3) := by decide +kernel
theorem zd215_70 : decode zxm215.2.1 70 = .ok (.aload_n 0, 1) := by decide +kernel
theorem zd215_71 : decode zxm215.2.1 71 = .ok (.invokevirtual 262, 3) := by decide +kernel
theorem zd215_74 : decode zxm215.2.1 74 = .ok (.ifCond .eq 7, 3) := by decide +kernel
theorem zd215_77 : decode zxm215.2.1 77 = .ok (.iconst 1, 1) := by decide +kernel
theorem zd215_78 : decode zxm215.2.1 78 = .ok (.goto 4, 3) := by decide +kernel
theorem zd215_81 : decode zxm215.2.1 81 = .ok (.iconst 0, 1) := by decide +kernel
theorem zd215_82 : decode zxm215.2.1 82 = .ok (.istore_n 2, 1) := by decide +kernel
theorem zd215_83 : decode zxm215.2.1 83 = .ok (.goto (-37), 3) := by decide +kernel
theorem zd215_86 : decode zxm215.2.1 86 = .ok (.aload_n 0, 1) := by decide +kernel
theorem zd215_87 : decode zxm215.2.1 87 = .ok (.iconst 0, 1) := by decide +kernel
theorem zd215_88 : decode zxm215.2.1 88 = .ok (.putfield 168, 3) := by decide +kernel
theorem zd215_91 : decode zxm215.2.1 91 = .ok (.iload_n 2, 1) := by decide +kernel
theorem zd215_92 : decode zxm215.2.1 92 = .ok (.ifCond .ne 8, 3) := by decide +kernel
theorem zd215_95 : decode zxm215.2.1 95 = .ok (.aload_n 0, 1) := by decide +kernel
theorem zd215_96 : decode zxm215.2.1 96 = .ok (.getfield 186, 3) := by decide +kernel
theorem zd215_99 : decode zxm215.2.1 99 = .ok (.ireturn, 1) := by decide +kernel
theorem zd215_100 : decode zxm215.2.1 100 = .ok (.aload_n 0, 1) := by decide +kernel
theorem zd215_101 : decode zxm215.2.1 101 = .ok (.aload_n 0, 1) := by decide +kernel
theorem zd215_102 : decode zxm215.2.1 102 = .ok (.getfield 256, 3) := by decide +kernel
theorem zd215_105 : decode zxm215.2.1 105 = .ok (.putfield 268, 3) := by decide +kernel
theorem zd215_108 : decode zxm215.2.1 108 = .ok (.iconst 0, 1) := by decide +kernel
theorem zd215_109 : decode zxm215.2.1 109 = .ok (.istore_n 3, 1) := by decide +kernel
theorem zd215_110 : decode zxm215.2.1 110 = .ok (.iload_n 3, 1) := by decide +kernel
theorem zd215_111 : decode zxm215.2.1 111 = .ok (.aload_n 0, 1) := by decide +kernel
theorem zd215_112 : decode zxm215.2.1 112 = .ok (.getfield 199, 3) := by decide +kernel
theorem zd215_115 : decode zxm215.2.1 115 = .ok (.if_icmp .ge 21, 3) := by decide +kernel
theorem zd215_118 : decode zxm215.2.1 118 = .ok (.aload_n 0, 1) := by decide +kernel
theorem zd215_119 : decode zxm215.2.1 119 = .ok (.getfield 41, 3) := by decide +kernel
theorem zd215_122 : decode zxm215.2.1 122 = .ok (.iload_n 3, 1) := by decide +kernel
theorem zd215_123 : decode zxm215.2.1 123 = .ok (.aload_n 0, 1) := by decide +kernel
theorem zd215_124 : decode zxm215.2.1 124 = .ok (.getfield 23, 3) := by decide +kernel
theorem zd215_127 : decode zxm215.2.1 127 = .ok (.iload_n 3, 1) := by decide +kernel
theorem zd215_128 : decode zxm215.2.1 128 = .ok (.iaload, 1) := by decide +kernel
theorem zd215_129 : decode zxm215.2.1 129 = .ok (.iastore, 1) := by decide +kernel
theorem zd215_130 : decode zxm215.2.1 130 = .ok (.iinc 3 1, 3) := by decide +kernel
theorem zd215_133 : decode zxm215.2.1 133 = .ok (.goto (-23), 3) := by decide +kernel
theorem zd215_136 : decode zxm215.2.1 136 = .ok (.iconst 0, 1) := by decide +kernel
theorem zd215_137 : decode zxm215.2.1 137 = .ok (.istore_n 3, 1) := by decide +kernel
theorem zd215_138 : decode zxm215.2.1 138 = .ok (.iload_n 3, 1) := by decide +kernel
theorem zd215_139 : decode zxm215.2.1 139 = .ok (.aload_n 0, 1) := by decide +kernel
theorem zd215_140 : decode zxm215.2.1 140 = .ok (.getfield 256, 3) := by decide +kernel
theorem zd215_143 : decode zxm215.2.1 143 = .ok (.if_icmp .ge 57, 3) := by decide +kernel
theorem zd215_146 : decode zxm215.2.1 146 = .ok (.aload_n 0, 1) := by decide +kernel
theorem zd215_147 : decode zxm215.2.1 147 = .ok (.getfield 44, 3) := by decide +kernel
theorem zd215_150 : decode zxm215.2.1 150 = .ok (.iload_n 3, 1) := by decide +kernel
theorem zd215_151 : decode zxm215.2.1 151 = .ok (.aload_n 0, 1) := by decide +kernel
theorem zd215_152 : decode zxm215.2.1 152 = .ok (.getfield 29, 3) := by decide +kernel
theorem zd215_155 : decode zxm215.2.1 155 = .ok (.iload_n 3, 1) := by decide +kernel
theorem zd215_156 : decode zxm215.2.1 156 = .ok (.iaload, 1) := by decide +kernel
theorem zd215_157 : decode zxm215.2.1 157 = .ok (.iastore, 1) := by decide +kernel
theorem zd215_158 : decode zxm215.2.1 158 = .ok (.aload_n 0, 1) := by decide +kernel
theorem zd215_159 : decode zxm215.2.1 159 = .ok (.getfield 47, 3) := by decide +kernel
theorem zd215_162 : decode zxm215.2.1 162 = .ok (.iload_n 3, 1) := by decide +kernel
theorem zd215_163 : decode zxm215.2.1 163 = .ok (.aload_n 0, 1) := by decide +kernel
theorem zd215_164 : decode zxm215.2.1 164 = .ok (.getfield 32, 3) := by decide +kernel
theorem zd215_167 : decode zxm215.2.1 167 = .ok (.iload_n 3, 1) := by decide +kernel
theorem zd215_168 : decode zxm215.2.1 168 = .ok (.iaload, 1) := by decide +kernel
theorem zd215_169 : decode zxm215.2.1 169 = .ok (.iastore, 1) := by decide +kernel
theorem zd215_170 : decode zxm215.2.1 170 = .ok (.aload_n 0, 1) := by decide +kernel
theorem zd215_171 : decode zxm215.2.1 171 = .ok (.getfield 50, 3) := by decide +kernel
theorem zd215_174 : decode zxm215.2.1 174 = .ok (.iload_n 3, 1) := by decide +kernel
theorem zd215_175 : decode zxm215.2.1 175 = .ok (.aload_n 0, 1) := by decide +kernel
theorem zd215_176 : decode zxm215.2.1 176 = .ok (.getfield 35, 3) := by decide +kernel
theorem zd215_179 : decode zxm215.2.1 179 = .ok (.iload_n 3, 1) := by decide +kernel
theorem zd215_180 : decode zxm215.2.1 180 = .ok (.iaload, 1) := by decide +kernel
theorem zd215_181 : decode zxm215.2.1 181 = .ok (.iastore, 1) := by decide +kernel
theorem zd215_182 : decode zxm215.2.1 182 = .ok (.aload_n 0, 1) := by decide +kernel
theorem zd215_183 : decode zxm215.2.1 183 = .ok (.getfield 53, 3) := by decide +kernel
theorem zd215_186 : decode zxm215.2.1 186 = .ok (.iload_n 3, 1) := by decide +kernel
theorem zd215_187 : decode zxm215.2.1 187 = .ok (.aload_n 0, 1) := by decide +kernel
theorem zd215_188 : decode zxm215.2.1 188 = .ok (.getfield 38, 3) := by decide +kernel
theorem zd215_191 : decode zxm215.2.1 191 = .ok (.iload_n 3, 1) := by decide +kernel
theorem zd215_192 : decode zxm215.2.1 192 = .ok (.iaload, 1) := by decide +kernel
theorem zd215_193 : decode zxm215.2.1 193 = .ok (.iastore, 1) := by decide +kernel
theorem zd215_194 : decode zxm215.2.1 194 = .ok (.iinc 3 1, 3) := by decide +kernel
theorem zd215_197 : decode zxm215.2.1 197 = .ok (.goto (-59), 3) := by decide +kernel
theorem zd215_200 : decode zxm215.2.1 200 = .ok (.aload_n 0, 1) := by decide +kernel
theorem zd215_201 : decode zxm215.2.1 201 = .ok (.getfield 256, 3) := by decide +kernel
theorem zd215_204 : decode zxm215.2.1 204 = .ok (.ireturn, 1) := by decide +kernel
theorem zt_M_law {x1 : Int} {f0 : Int} {f1 : Int} {f2 : Int} {f3 : Int} {f4 : Int} {f5 : Int} {f6 : Int} {f7 : Int} {f8 : Int} {f9 : Int} {g0 : (Int → Int)} {g1 : (Int → Int)} {g2 : (Int → Int)} {g3 : (Int → Int)} {g4 : (Int → Int)} {g5 : (Int → Int)} {g6 : (Int → Int)} {g7 : (Int → Int)} {g8 : (Int → Int)} {g9 : (Int → Int)} {g10 : (Int → Int)} {g11 : (Int → Int)} {o : Int × Int × Int × Int × Int × Int × Int × Int × Int × Int × Int × (Int → Int) × (Int → Int) × (Int → Int) × (Int → Int) × (Int → Int) × (Int → Int) × (Int → Int) × (Int → Int) × (Int → Int) × (Int → Int) × (Int → Int)} (h : zf_M_law x1 f0 f1 f2 f3 f4 f5 f6 f7 f8 f9 g0 g1 g2 g3 g4 g5 g6 g7 g8 g9 g10 g11 = some o) : zv_Fn z_TB z_cl z_KX zy_M_law zxm215 (8, 480) [.inr 0, .inl x1] [.inl f0, .inl f1, .inl f2, .inl f3, .inl f4, .inl f5, .inl f6, .inl f7, .inl f8, .inl f9] [g0, g1, g2, g3, g4, g5, g6, g7, g8, g9, g10, g11] (some o.1) [.inl o.2.1, .inl o.2.2.1, .inl o.2.2.2.1, .inl o.2.2.2.2.1, .inl o.2.2.2.2.2.1, .inl o.2.2.2.2.2.2.1, .inl o.2.2.2.2.2.2.2.1, .inl o.2.2.2.2.2.2.2.2.1, .inl o.2.2.2.2.2.2.2.2.2.1, .inl o.2.2.2.2.2.2.2.2.2.2.1] [g0, o.2.2.2.2.2.2.2.2.2.2.2.1, o.2.2.2.2.2.2.2.2.2.2.2.2.1, o.2.2.2.2.2.2.2.2.2.2.2.2.2.1, o.2.2.2.2.2.2.2.2.2.2.2.2.2.2.1, o.2.2.2.2.2.2.2.2.2.2.2.2.2.2.2.1, o.2.2.2.2.2.2.2.2.2.2.2.2.2.2.2.2.1, o.2.2.2.2.2.2.2.2.2.2.2.2.2.2.2.2.2.1, o.2.2.2.2.2.2.2.2.2.2.2.2.2.2.2.2.2.2.1, o.2.2.2.2.2.2.2.2.2.2.2.2.2.2.2.2.2.2.2.1, o.2.2.2.2.2.2.2.2.2.2.2.2.2.2.2.2.2.2.2.2.1, o.2.2.2.2.2.2.2.2.2.2.2.2.2.2.2.2.2.2.2.2.2] := zv_meth (K := (z_KF13, z_KC13, z_KL13, z_KT13, [], [], [], none)) (FT := z_FT) (MT := z_MT) (n := 2) zxp215 (z_ks13 _ (fun _ h => List.mem_cons_of_mem _ h) _ _ _ _ (fun j r h _ => by cases h)) (fun _ _ => zs_KX_p) zyw_M_law (fun va F G h => by obtain ⟨rfl, _⟩ := h; rfl) (fun va F G h => by obtain ⟨rfl, _⟩ := h; rfl) rfl fun good va F G hB hret hvret hP => by
  obtain ⟨rfl, rfl, rfl⟩ := hP
  have l0 : ∀ (n : Nat) (x2 : Int) (f0 : Int) (f1 : Int) (f2 : Int) (f3 : Int) (f4 : Int) (f5 : Int) (f6 : Int) (f7 : Int) (f8 : Int) (f9 : Int) (g1 : (Int → Int)) (g2 : (Int → Int)) (g3 : (Int → Int)) (g4 : (Int → Int)) (g5 : (Int → Int)) (g6 : (Int → Int)) (g7 : (Int → Int)) (g8 : (Int → Int)) (g9 : (Int → Int)) (g10 : (Int → Int)) (g11 : (Int → Int)) (q : Int × Int × Int × Int × Int × Int × Int × Int × (Int → Int) × (Int → Int) × (Int → Int) × (Int → Int) × (Int → Int) × (Int → Int)), zf_M_law_l0 f2 g0 n x2 f1 f3 f4 f5 f6 f7 f8 g1 g2 g3 g4 g5 g6 = some q → (good 86 [.inr 0, .inr 1000, .inl q.1, .inr 1000] [] [.inl f0, .inl q.2.1, .inl f2, .inl q.2.2.1, .inl q.2.2.2.1, .inl q.2.2.2.2.1, .inl q.2.2.2.2.2.1, .inl q.2.2.2.2.2.2.1, .inl q.2.2.2.2.2.2.2.1, .inl f9] [g0, q.2.2.2.2.2.2.2.2.1, q.2.2.2.2.2.2.2.2.2.1, q.2.2.2.2.2.2.2.2.2.2.1, q.2.2.2.2.2.2.2.2.2.2.2.1, q.2.2.2.2.2.2.2.2.2.2.2.2.1, q.2.2.2.2.2.2.2.2.2.2.2.2.2, g7, g8, g9, g10, g11]) → good 46 [.inr 0, .inr 1000, .inl x2, .inr 1000] [] [.inl f0, .inl f1, .inl f2, .inl f3, .inl f4, .inl f5, .inl f6, .inl f7, .inl f8, .inl f9] [g0, g1, g2, g3, g4, g5, g6, g7, g8, g9, g10, g11] := by
    intro n
    induction n with
    | zero => intro x2 f0 f1 f2 f3 f4 f5 f6 f7 f8 f9 g1 g2 g3 g4 g5 g6 g7 g8 g9 g10 g11 q h; exact absurd (show none = some q from h) (fun h => by cases h)
    | succ n ih =>
      intro x2 f0 f1 f2 f3 f4 f5 f6 f7 f8 f9 g1 g2 g3 g4 g5 g6 g7 g8 g9 g10 g11 q h hK
      replace h : zf_M_law_l0_b f2 g0 (zf_M_law_l0 f2 g0 n) x2 f1 f3 f4 f5 f6 f7 f8 g1 g2 g3 g4 g5 g6 = some q := h
      unfold zf_M_law_l0_b at h
      refine zv_ild hB zd215_46 rfl rfl ?_
      refine zv_zeq hB zd215_47 rfl (fun hc5 => ?_) (fun hc5 => ?_)
      · rw [if_pos hc5] at h
        have hq := Option.some.inj h
        subst hq
        exact hK
      · rw [if_neg hc5] at h
        refine zv_ald hB zd215_50 rfl rfl rfl ?_
        refine zv_getf hB zd215_51 rfl rfl (fun _ _ => ?_)
        refine zv_ald hB zd215_54 rfl rfl rfl ?_
        refine zv_getf hB zd215_55 rfl rfl (fun _ _ => ?_)
        refine zv_cge hB zd215_58 rfl (fun hc6 => ?_) (fun hc6 => ?_)
        · rw [if_neg (Int.not_lt.mpr hc6)] at h
          have hq := Option.some.inj h
          subst hq
          exact hK
        · rw [if_pos hc6] at h
          refine zv_ald hB zd215_61 rfl rfl rfl ?_
          refine zv_con hB zd215_62 rfl ?_
          obtain ⟨r7, hr7, h⟩ := zi_bind h
          refine zv_cv hB (zv_emq (va2 := [.inr 0, .inl 59]) (F := [.inl f0, .inl f1, .inl f2, .inl f3, .inl f4, .inl f5, .inl f6, .inl f7, .inl f8, .inl f9]) (F' := [.inl f0, .inl r7.2.1, .inl f2, .inl f3, .inl f4, .inl f5, .inl f6, .inl r7.2.2, .inl f8, .inl f9]) (G := [g0, g1, g2, g3, g4, g5, g6, g7, g8, g9, g10, g11]) (G' := [g0, g1, g2, g3, g4, g5, g6, g7, g8, g9, g10, g11]) (ρ := [0, 1]) (φ := [1, 2, 7]) (ψ := [0]) [none, some 0, some 1, none, none, none, none, some 2, none, none] [some 0, none, none, none, none, none, none, none, none, none, none, none] zyw_M_takes zyw_M_law zye_M_law (by decide +kernel) (zt_M_takes hr7) ⟨⟨_, rfl, fun _ => rfl⟩, ⟨_, rfl, fun _ => rfl⟩, ⟨_, rfl, fun _ => rfl⟩, trivial⟩ ⟨rfl, trivial⟩ rfl rfl rfl rfl rfl rfl rfl) zd215_64 zxt236 rfl (by decide) (by decide) rfl ?_
          refine zv_zeq hB zd215_67 rfl (fun hc8 => ?_) (fun hc8 => ?_)
          · rw [if_pos hc8] at h
            refine zv_con hB zd215_81 rfl ?_
            refine zv_ist hB zd215_82 rfl rfl rfl ?_
            refine zv_goto hB zd215_83 rfl ?_
            exact ih _ _ _ _ _ _ _ _ _ _ _ _ _ _ _ _ _ _ _ _ _ _ q h hK
          · rw [if_neg hc8] at h
            refine zv_ald hB zd215_70 rfl rfl rfl ?_
            obtain ⟨r9, hr9, h⟩ := zi_bind h
            refine zv_cv hB (zv_emq (va2 := [.inr 0]) (F := [.inl f0, .inl r7.2.1, .inl f2, .inl f3, .inl f4, .inl f5, .inl f6, .inl r7.2.2, .inl f8, .inl f9]) (F' := [.inl f0, .inl r9.2.1, .inl f2, .inl r9.2.2.2.1, .inl r9.2.2.1, .inl r9.2.2.2.2.1, .inl r9.2.2.2.2.2.1, .inl r9.2.2.2.2.2.2.1, .inl r9.2.2.2.2.2.2.2.1, .inl f9]) (G := [g0, g1, g2, g3, g4, g5, g6, g7, g8, g9, g10, g11]) (G' := [g0, r9.2.2.2.2.2.2.2.2.1, r9.2.2.2.2.2.2.2.2.2.1, r9.2.2.2.2.2.2.2.2.2.2.1, r9.2.2.2.2.2.2.2.2.2.2.2.1, r9.2.2.2.2.2.2.2.2.2.2.2.2.1, r9.2.2.2.2.2.2.2.2.2.2.2.2.2, g7, g8, g9, g10, g11]) (ρ := [0, 1, 2, 3, 4, 5, 6, 7]) (φ := [1, 2, 4, 3, 5, 6, 7, 8]) (ψ := [0, 1, 2, 3, 4, 5, 6]) [none, some 0, some 1, some 3, some 2, some 4, some 5, some 6, some 7, none] [some 0, some 1, some 2, some 3, some 4, some 5, some 6, none, none, none, none, none] zyw_M_readsClause zyw_M_law zye_M_law (by decide +kernel) (zt_M_readsClause hr9) ⟨⟨_, rfl, fun _ => rfl⟩, ⟨_, rfl, fun _ => rfl⟩, ⟨_, rfl, fun _ => rfl⟩, ⟨_, rfl, fun _ => rfl⟩, ⟨_, rfl, fun _ => rfl⟩, ⟨_, rfl, fun _ => rfl⟩, ⟨_, rfl, fun _ => rfl⟩, ⟨_, rfl, fun _ => rfl⟩, trivial⟩ ⟨rfl, rfl, rfl, rfl, rfl, rfl, rfl, trivial⟩ rfl rfl rfl rfl rfl rfl rfl) zd215_71 zxt216 rfl (by decide) (by decide) rfl ?_
            refine zv_zeq hB zd215_74 rfl (fun hc10 => ?_) (fun hc10 => ?_)
            · rw [if_pos hc10] at h
              refine zv_con hB zd215_81 rfl ?_
              refine zv_ist hB zd215_82 rfl rfl rfl ?_
              refine zv_goto hB zd215_83 rfl ?_
              exact ih _ _ _ _ _ _ _ _ _ _ _ _ _ _ _ _ _ _ _ _ _ _ q h hK
            · rw [if_neg hc10] at h
              refine zv_con hB zd215_77 rfl ?_
              refine zv_goto hB zd215_78 rfl ?_
              refine zv_ist hB zd215_82 rfl rfl rfl ?_
              refine zv_goto hB zd215_83 rfl ?_
              exact ih _ _ _ _ _ _ _ _ _ _ _ _ _ _ _ _ _ _ _ _ _ _ q h hK
  have l1 : ∀ (n : Nat) (x3 : Int) (f0 : Int) (f1 : Int) (f2 : Int) (f3 : Int) (f4 : Int) (f5 : Int) (f6 : Int) (f7 : Int) (f8 : Int) (f9 : Int) (g1 : (Int → Int)) (g2 : (Int → Int)) (g3 : (Int → Int)) (g4 : (Int → Int)) (g5 : (Int → Int)) (g6 : (Int → Int)) (g7 : (Int → Int)) (g8 : (Int → Int)) (g9 : (Int → Int)) (g10 : (Int → Int)) (g11 : (Int → Int)) (q : (Int → Int)), zf_M_law_l1 f3 g5 n x3 g7 = some q → (good 136 [.inr 0, .inr 1000, .inr 1000, .inr 1000] [] [.inl f0, .inl f1, .inl f2, .inl f3, .inl f4, .inl f5, .inl f6, .inl f7, .inl f8, .inl f9] [g0, g1, g2, g3, g4, g5, g6, q, g8, g9, g10, g11]) → good 110 [.inr 0, .inr 1000, .inr 1000, .inl x3] [] [.inl f0, .inl f1, .inl f2, .inl f3, .inl f4, .inl f5, .inl f6, .inl f7, .inl f8, .inl f9] [g0, g1, g2, g3, g4, g5, g6, g7, g8, g9, g10, g11] := by
    intro n
    induction n with
    | zero => intro x3 f0 f1 f2 f3 f4 f5 f6 f7 f8 f9 g1 g2 g3 g4 g5 g6 g7 g8 g9 g10 g11 q h; exact absurd (show none = some q from h) (fun h => by cases h)
    | succ n ih =>
      intro x3 f0 f1 f2 f3 f4 f5 f6 f7 f8 f9 g1 g2 g3 g4 g5 g6 g7 g8 g9 g10 g11 q h hK
      replace h : zf_M_law_l1_b f3 g5 (zf_M_law_l1 f3 g5 n) x3 g7 = some q := h
      unfold zf_M_law_l1_b at h
      refine zv_ild hB zd215_110 rfl rfl ?_
      refine zv_ald hB zd215_111 rfl rfl rfl ?_
      refine zv_getf hB zd215_112 rfl rfl (fun _ _ => ?_)
      refine zv_cge hB zd215_115 rfl (fun hc13 => ?_) (fun hc13 => ?_)
      · rw [if_neg (Int.not_lt.mpr hc13)] at h
        have hq := Option.some.inj h
        subst hq
        refine zv_wk hB (L' := [.inr 0, .inr 1000, .inr 1000, .inr 1000]) (F' := [.inl f0, .inl f1, .inl f2, .inl f3, .inl f4, .inl f5, .inl f6, .inl f7, .inl f8, .inl f9]) ⟨fun _ => rfl, fun (h : zv_is (.inr 1000)) => (Nat.lt_irrefl 1000 h).elim, fun (h : zv_is (.inr 1000)) => (Nat.lt_irrefl 1000 h).elim, fun (h : zv_is (.inr 1000)) => (Nat.lt_irrefl 1000 h).elim, trivial⟩ ⟨fun _ => rfl, fun _ => rfl, fun _ => rfl, fun _ => rfl, fun _ => rfl, fun _ => rfl, fun _ => rfl, fun _ => rfl, fun _ => rfl, fun _ => rfl, trivial⟩ ?_
        exact hK
      · rw [if_pos hc13] at h
        refine zv_ald hB zd215_118 rfl rfl rfl ?_
        refine zv_getr hB zd215_119 rfl ?_
        refine zv_ild hB zd215_122 rfl rfl ?_
        refine zv_ald hB zd215_123 rfl rfl rfl ?_
        refine zv_getr hB zd215_124 rfl ?_
        refine zv_ild hB zd215_127 rfl rfl ?_
        obtain ⟨c14, h⟩ := zi_if h
        refine zv_iald hB zd215_128 rfl rfl (zi_ix_ok c14).1 (zi_ix_ok c14).2 (fun _ _ => ?_)
        refine zv_iast hB zd215_129 rfl rfl (zi_ix_ok c14).1 (zi_ix_ok c14).2 ?_
        refine zv_iincw hB zd215_130 rfl rfl ?_
        refine zv_goto hB zd215_133 rfl ?_
        exact ih _ _ _ _ _ _ _ _ _ _ _ _ _ _ _ _ _ _ _ _ _ _ q h hK
  have l2 : ∀ (n : Nat) (x3 : Int) (f0 : Int) (f1 : Int) (f2 : Int) (f3 : Int) (f4 : Int) (f5 : Int) (f6 : Int) (f7 : Int) (f8 : Int) (f9 : Int) (g1 : (Int → Int)) (g2 : (Int → Int)) (g3 : (Int → Int)) (g4 : (Int → Int)) (g5 : (Int → Int)) (g6 : (Int → Int)) (g7 : (Int → Int)) (g8 : (Int → Int)) (g9 : (Int → Int)) (g10 : (Int → Int)) (g11 : (Int → Int)) (q : (Int → Int) × (Int → Int) × (Int → Int) × (Int → Int)), zf_M_law_l2 f4 g1 g2 g3 g6 n x3 g8 g9 g10 g11 = some q → (good 200 [.inr 0, .inr 1000, .inr 1000, .inr 1000] [] [.inl f0, .inl f1, .inl f2, .inl f3, .inl f4, .inl f5, .inl f6, .inl f7, .inl f8, .inl f9] [g0, g1, g2, g3, g4, g5, g6, g7, q.1, q.2.1, q.2.2.1, q.2.2.2]) → good 138 [.inr 0, .inr 1000, .inr 1000, .inl x3] [] [.inl f0, .inl f1, .inl f2, .inl f3, .inl f4, .inl f5, .inl f6, .inl f7, .inl f8, .inl f9] [g0, g1, g2, g3, g4, g5, g6, g7, g8, g9, g10, g11] := by
    intro n
    induction n with
    | zero => intro x3 f0 f1 f2 f3 f4 f5 f6 f7 f8 f9 g1 g2 g3 g4 g5 g6 g7 g8 g9 g10 g11 q h; exact absurd (show none = some q from h) (fun h => by cases h)
    | succ n ih =>
      intro x3 f0 f1 f2 f3 f4 f5 f6 f7 f8 f9 g1 g2 g3 g4 g5 g6 g7 g8 g9 g10 g11 q h hK
      replace h : zf_M_law_l2_b f4 g1 g2 g3 g6 (zf_M_law_l2 f4 g1 g2 g3 g6 n) x3 g8 g9 g10 g11 = some q := h
      unfold zf_M_law_l2_b at h
      refine zv_ild hB zd215_138 rfl rfl ?_
      refine zv_ald hB zd215_139 rfl rfl rfl ?_
      refine zv_getf hB zd215_140 rfl rfl (fun _ _ => ?_)
      refine zv_cge hB zd215_143 rfl (fun hc16 => ?_) (fun hc16 => ?_)
      · rw [if_neg (Int.not_lt.mpr hc16)] at h
        have hq := Option.some.inj h
        subst hq
        refine zv_wk hB (L' := [.inr 0, .inr 1000, .inr 1000, .inr 1000]) (F' := [.inl f0, .inl f1, .inl f2, .inl f3, .inl f4, .inl f5, .inl f6, .inl f7, .inl f8, .inl f9]) ⟨fun _ => rfl, fun (h : zv_is (.inr 1000)) => (Nat.lt_irrefl 1000 h).elim, fun (h : zv_is (.inr 1000)) => (Nat.lt_irrefl 1000 h).elim, fun (h : zv_is (.inr 1000)) => (Nat.lt_irrefl 1000 h).elim, trivial⟩ ⟨fun _ => rfl, fun _ => rfl, fun _ => rfl, fun _ => rfl, fun _ => rfl, fun _ => rfl, fun _ => rfl, fun _ => rfl, fun _ => rfl, fun _ => rfl, trivial⟩ ?_
        exact hK
      · rw [if_pos hc16] at h
        refine zv_ald hB zd215_146 rfl rfl rfl ?_
        refine zv_getr hB zd215_147 rfl ?_
        refine zv_ild hB zd215_150 rfl rfl ?_
        refine zv_ald hB zd215_151 rfl rfl rfl ?_
        refine zv_getr hB zd215_152 rfl ?_
        refine zv_ild hB zd215_155 rfl rfl ?_
        obtain ⟨c17, h⟩ := zi_if h
        refine zv_iald hB zd215_156 rfl rfl (zi_ix_ok c17).1 (zi_ix_ok c17).2 (fun _ _ => ?_)
        refine zv_iast hB zd215_157 rfl rfl (zi_ix_ok c17).1 (zi_ix_ok c17).2 ?_
        refine zv_ald hB zd215_158 rfl rfl rfl ?_
        refine zv_getr hB zd215_159 rfl ?_
        refine zv_ild hB zd215_162 rfl rfl ?_
        refine zv_ald hB zd215_163 rfl rfl rfl ?_
        refine zv_getr hB zd215_164 rfl ?_
        refine zv_ild hB zd215_167 rfl rfl ?_
        refine zv_iald hB zd215_168 rfl rfl (zi_ix_ok c17).1 (zi_ix_ok c17).2 (fun _ _ => ?_)
        refine zv_iast hB zd215_169 rfl rfl (zi_ix_ok c17).1 (zi_ix_ok c17).2 ?_
        refine zv_ald hB zd215_170 rfl rfl rfl ?_
        refine zv_getr hB zd215_171 rfl ?_
        refine zv_ild hB zd215_174 rfl rfl ?_
        refine zv_ald hB zd215_175 rfl rfl rfl ?_
        refine zv_getr hB zd215_176 rfl ?_
        refine zv_ild hB zd215_179 rfl rfl ?_
        refine zv_iald hB zd215_180 rfl rfl (zi_ix_ok c17).1 (zi_ix_ok c17).2 (fun _ _ => ?_)
        refine zv_iast hB zd215_181 rfl rfl (zi_ix_ok c17).1 (zi_ix_ok c17).2 ?_
        refine zv_ald hB zd215_182 rfl rfl rfl ?_
        refine zv_getr hB zd215_183 rfl ?_
        refine zv_ild hB zd215_186 rfl rfl ?_
        refine zv_ald hB zd215_187 rfl rfl rfl ?_
        refine zv_getr hB zd215_188 rfl ?_
        refine zv_ild hB zd215_191 rfl rfl ?_
        refine zv_iald hB zd215_192 rfl rfl (zi_ix_ok c17).1 (zi_ix_ok c17).2 (fun _ _ => ?_)
        refine zv_iast hB zd215_193 rfl rfl (zi_ix_ok c17).1 (zi_ix_ok c17).2 ?_
        refine zv_iincw hB zd215_194 rfl rfl ?_
        refine zv_goto hB zd215_197 rfl ?_
        exact ih _ _ _ _ _ _ _ _ _ _ _ _ _ _ _ _ _ _ _ _ _ _ q h hK
  unfold zf_M_law at h
  refine zv_ild hB zd215_0 rfl rfl ?_
  refine zv_con hB zd215_1 rfl ?_
  refine zv_con hB zd215_2 rfl ?_
  obtain ⟨r1, hr1, h⟩ := zi_bind h
  refine zv_cs hB (zv_emq (va2 := [.inl x1, .inl 1, .inl 200]) (F := [.inl f0, .inl f1, .inl f2, .inl f3, .inl f4, .inl f5, .inl f6, .inl f7, .inl f8, .inl f9]) (F' := [.inl f0, .inl f1, .inl f2, .inl f3, .inl f4, .inl f5, .inl f6, .inl f7, .inl f8, .inl f9]) (G := [g0, g1, g2, g3, g4, g5, g6, g7, g8, g9, g10, g11]) (G' := [g0, g1, g2, g3, g4, g5, g6, g7, g8, g9, g10, g11]) (ρ := []) (φ := []) (ψ := []) [none, none, none, none, none, none, none, none, none, none] [none, none, none, none, none, none, none, none, none, none, none, none] zyw_M_in zyw_M_law zye_M_law (by decide +kernel) (zt_M_in hr1) trivial trivial rfl rfl rfl rfl rfl rfl rfl) zd215_5 zxt200 rfl (by decide) (by decide) rfl ?_
  refine zv_zeq hB zd215_8 rfl (fun hc2 => ?_) (fun hc2 => ?_)
  · rw [if_pos hc2] at h
    refine zv_con hB zd215_19 rfl ?_
    have hw := Option.some.inj h
    subst hw
    exact hret _ _ _ _ _ zd215_20 (by trivial) ⟨rfl, rfl, rfl⟩
  · rw [if_neg hc2] at h
    refine zv_ild hB zd215_11 rfl rfl ?_
    refine zv_ald hB zd215_12 rfl rfl rfl ?_
    refine zv_getf hB zd215_13 rfl rfl (fun _ _ => ?_)
    refine zv_cle hB zd215_16 rfl (fun hc3 => ?_) (fun hc3 => ?_)
    · rw [if_neg (Int.not_lt.mpr hc3)] at h
      refine zv_ald hB zd215_21 rfl rfl rfl ?_
      refine zv_con hB zd215_22 rfl ?_
      refine zv_putf hB zd215_23 rfl rfl (fun h => by cases h) rfl ?_
      refine zv_ald hB zd215_26 rfl rfl rfl ?_
      refine zv_ild hB zd215_27 rfl rfl ?_
      refine zv_putf hB zd215_28 rfl rfl (fun h => by cases h) rfl ?_
      refine zv_ald hB zd215_31 rfl rfl rfl ?_
      refine zv_con hB zd215_32 rfl ?_
      refine zv_putf hB zd215_33 rfl rfl (fun h => by cases h) rfl ?_
      refine zv_ald hB zd215_36 rfl rfl rfl ?_
      refine zv_con hB zd215_37 rfl ?_
      refine zv_putf hB zd215_38 rfl rfl (fun h => by cases h) rfl ?_
      refine zv_ald hB zd215_41 rfl rfl rfl ?_
      obtain ⟨r4, hr4, h⟩ := zi_bind h
      refine zv_cv hB (zv_emq (va2 := [.inr 0]) (F := [.inl f0, .inl 0, .inl x1, .inl 0, .inl 0, .inl f5, .inl f6, .inl f7, .inl f8, .inl f9]) (F' := [.inl f0, .inl r4.2.1, .inl x1, .inl r4.2.2.2.1, .inl r4.2.2.1, .inl r4.2.2.2.2.1, .inl r4.2.2.2.2.2.1, .inl r4.2.2.2.2.2.2.1, .inl r4.2.2.2.2.2.2.2.1, .inl f9]) (G := [g0, g1, g2, g3, g4, g5, g6, g7, g8, g9, g10, g11]) (G' := [g0, r4.2.2.2.2.2.2.2.2.1, r4.2.2.2.2.2.2.2.2.2.1, r4.2.2.2.2.2.2.2.2.2.2.1, r4.2.2.2.2.2.2.2.2.2.2.2.1, r4.2.2.2.2.2.2.2.2.2.2.2.2.1, r4.2.2.2.2.2.2.2.2.2.2.2.2.2, g7, g8, g9, g10, g11]) (ρ := [0, 1, 2, 3, 4, 5, 6, 7]) (φ := [1, 2, 4, 3, 5, 6, 7, 8]) (ψ := [0, 1, 2, 3, 4, 5, 6]) [none, some 0, some 1, some 3, some 2, some 4, some 5, some 6, some 7, none] [some 0, some 1, some 2, some 3, some 4, some 5, some 6, none, none, none, none, none] zyw_M_readsClause zyw_M_law zye_M_law (by decide +kernel) (zt_M_readsClause hr4) ⟨⟨_, rfl, fun _ => rfl⟩, ⟨_, rfl, fun _ => rfl⟩, ⟨_, rfl, fun _ => rfl⟩, ⟨_, rfl, fun _ => rfl⟩, ⟨_, rfl, fun _ => rfl⟩, ⟨_, rfl, fun _ => rfl⟩, ⟨_, rfl, fun _ => rfl⟩, ⟨_, rfl, fun _ => rfl⟩, trivial⟩ ⟨rfl, rfl, rfl, rfl, rfl, rfl, rfl, trivial⟩ rfl rfl rfl rfl rfl rfl rfl) zd215_42 zxt216 rfl (by decide) (by decide) rfl ?_
      refine zv_ist hB zd215_45 rfl rfl rfl ?_
      obtain ⟨q11, hq11, h⟩ := zi_bind h
      refine zv_wk hB (L' := [.inr 0, .inr 1000, .inl r4.1, .inr 1000]) (F' := [.inl f0, .inl r4.2.1, .inl x1, .inl r4.2.2.2.1, .inl r4.2.2.1, .inl r4.2.2.2.2.1, .inl r4.2.2.2.2.2.1, .inl r4.2.2.2.2.2.2.1, .inl r4.2.2.2.2.2.2.2.1, .inl f9]) ⟨fun _ => rfl, fun (h : zv_is (.inr 1000)) => (Nat.lt_irrefl 1000 h).elim, fun _ => rfl, fun (h : zv_is (.inr 1000)) => (Nat.lt_irrefl 1000 h).elim, trivial⟩ ⟨fun _ => rfl, fun _ => rfl, fun _ => rfl, fun _ => rfl, fun _ => rfl, fun _ => rfl, fun _ => rfl, fun _ => rfl, fun _ => rfl, fun _ => rfl, trivial⟩ ?_
      refine l0 _ _ _ _ _ _ _ _ _ _ _ _ _ _ _ _ _ _ _ _ _ _ _ q11 hq11 ?_
      show good 86 [.inr 0, .inr 1000, .inl q11.1, .inr 1000] [] [.inl f0, .inl q11.2.1, .inl x1, .inl q11.2.2.1, .inl q11.2.2.2.1, .inl q11.2.2.2.2.1, .inl q11.2.2.2.2.2.1, .inl q11.2.2.2.2.2.2.1, .inl q11.2.2.2.2.2.2.2.1, .inl f9] [g0, q11.2.2.2.2.2.2.2.2.1, q11.2.2.2.2.2.2.2.2.2.1, q11.2.2.2.2.2.2.2.2.2.2.1, q11.2.2.2.2.2.2.2.2.2.2.2.1, q11.2.2.2.2.2.2.2.2.2.2.2.2.1, q11.2.2.2.2.2.2.2.2.2.2.2.2.2, g7, g8, g9, g10, g11]
      refine zv_ald hB zd215_86 rfl rfl rfl ?_
      refine zv_con hB zd215_87 rfl ?_
      refine zv_putf hB zd215_88 rfl rfl (fun h => by cases h) rfl ?_
      refine zv_ild hB zd215_91 rfl rfl ?_
      refine zv_zne hB zd215_92 rfl (fun hc12 => ?_) (fun hc12 => ?_)
      · rw [if_neg hc12] at h
        refine zv_ald hB zd215_100 rfl rfl rfl ?_
        refine zv_ald hB zd215_101 rfl rfl rfl ?_
        refine zv_getf hB zd215_102 rfl rfl (fun _ _ => ?_)
        refine zv_putf hB zd215_105 rfl rfl (fun h => by cases h) rfl ?_
        refine zv_con hB zd215_108 rfl ?_
        refine zv_ist hB zd215_109 rfl rfl rfl ?_
        obtain ⟨q15, hq15, h⟩ := zi_bind h
        refine zv_wk hB (L' := [.inr 0, .inr 1000, .inr 1000, .inl 0]) (F' := [.inl 0, .inl q11.2.1, .inl x1, .inl q11.2.2.1, .inl q11.2.2.2.1, .inl q11.2.2.2.2.1, .inl q11.2.2.2.2.2.1, .inl q11.2.2.2.2.2.2.1, .inl q11.2.2.2.2.2.2.2.1, .inl q11.2.2.2.1]) ⟨fun _ => rfl, fun (h : zv_is (.inr 1000)) => (Nat.lt_irrefl 1000 h).elim, fun (h : zv_is (.inr 1000)) => (Nat.lt_irrefl 1000 h).elim, fun _ => rfl, trivial⟩ ⟨fun _ => rfl, fun _ => rfl, fun _ => rfl, fun _ => rfl, fun _ => rfl, fun _ => rfl, fun _ => rfl, fun _ => rfl, fun _ => rfl, fun _ => rfl, trivial⟩ ?_
        refine l1 _ _ _ _ _ _ _ _ _ _ _ _ _ _ _ _ _ _ _ _ _ _ _ q15 hq15 ?_
        show good 136 [.inr 0, .inr 1000, .inr 1000, .inr 1000] [] [.inl 0, .inl q11.2.1, .inl x1, .inl q11.2.2.1, .inl q11.2.2.2.1, .inl q11.2.2.2.2.1, .inl q11.2.2.2.2.2.1, .inl q11.2.2.2.2.2.2.1, .inl q11.2.2.2.2.2.2.2.1, .inl q11.2.2.2.1] [g0, q11.2.2.2.2.2.2.2.2.1, q11.2.2.2.2.2.2.2.2.2.1, q11.2.2.2.2.2.2.2.2.2.2.1, q11.2.2.2.2.2.2.2.2.2.2.2.1, q11.2.2.2.2.2.2.2.2.2.2.2.2.1, q11.2.2.2.2.2.2.2.2.2.2.2.2.2, q15, g8, g9, g10, g11]
        refine zv_con hB zd215_136 rfl ?_
        refine zv_ist hB zd215_137 rfl rfl rfl ?_
        obtain ⟨q18, hq18, h⟩ := zi_bind h
        refine l2 _ _ _ _ _ _ _ _ _ _ _ _ _ _ _ _ _ _ _ _ _ _ _ q18 hq18 ?_
        show good 200 [.inr 0, .inr 1000, .inr 1000, .inr 1000] [] [.inl 0, .inl q11.2.1, .inl x1, .inl q11.2.2.1, .inl q11.2.2.2.1, .inl q11.2.2.2.2.1, .inl q11.2.2.2.2.2.1, .inl q11.2.2.2.2.2.2.1, .inl q11.2.2.2.2.2.2.2.1, .inl q11.2.2.2.1] [g0, q11.2.2.2.2.2.2.2.2.1, q11.2.2.2.2.2.2.2.2.2.1, q11.2.2.2.2.2.2.2.2.2.2.1, q11.2.2.2.2.2.2.2.2.2.2.2.1, q11.2.2.2.2.2.2.2.2.2.2.2.2.1, q11.2.2.2.2.2.2.2.2.2.2.2.2.2, q15, q18.1, q18.2.1, q18.2.2.1, q18.2.2.2]
        refine zv_ald hB zd215_200 rfl rfl rfl ?_
        refine zv_getf hB zd215_201 rfl rfl (fun _ _ => ?_)
        have hw := Option.some.inj h
        subst hw
        exact hret _ _ _ _ _ zd215_204 (by trivial) ⟨rfl, rfl, rfl⟩
      · rw [if_pos hc12] at h
        refine zv_ald hB zd215_95 rfl rfl rfl ?_
        refine zv_getf hB zd215_96 rfl rfl (fun _ _ => ?_)
        have hw := Option.some.inj h
        subst hw
        exact hret _ _ _ _ _ zd215_99 (by trivial) ⟨rfl, rfl, rfl⟩
    · rw [if_pos hc3] at h
      refine zv_con hB zd215_19 rfl ?_
      have hw := Option.some.inj h
      subst hw
      exact hret _ _ _ _ _ zd215_20 (by trivial) ⟨rfl, rfl, rfl⟩
/-! M_standsAt (I)I -/
-- names: 0 StarTalesModel('arg', 0), 1 (0, 422)(0, 12, 0)
-- fields: ; arrays: g0 = 1; out: [('ret', None)]
abbrev zy_M_standsAt : zNL := (2, [(0, 12)], [], [(0, 12, 0, 1)], [(1, 0, 422, 0)])
theorem zyw_M_standsAt : zv_wf zy_M_standsAt = true := by decide +kernel
theorem zye_M_standsAt : zv_ek2 zy_M_standsAt = true := by decide +kernel
def zf_M_standsAt (x1 : Int) (g0 : (Int → Int)) : Option (Int) := cond (zi_ix (zi_w (0 + x1)) 422) (some (zi_rem (zi_w ((g0 (zi_w (0 + x1))) + (g0 128))) 24)) none
theorem zd238_0 : decode zxm238.2.1 0 = .ok (.aload_n 0, 1) := by decide +kernel
theorem zd238_1 : decode zxm238.2.1 1 = .ok (.getfield 7, 3) := by decide +kernel
theorem zd238_4 : decode zxm238.2.1 4 = .ok (.iconst 0, 1) := by decide +kernel
theorem zd238_5 : decode zxm238.2.1 5 = .ok (.iload_n 1, 1) := by decide +kernel
theorem zd238_6 : decode zxm238.2.1 6 = .ok (.iadd, 1) := by decide +kernel
theorem zd238_7 : decode zxm238.2.1 7 = .ok (.iaload, 1) := by decide +kernel
theorem zd238_8 : decode zxm238.2.1 8 = .ok (.aload_n 0, 1) := by decide +kernel
theorem zd238_9 : decode zxm238.2.1 9 = .ok (.getfield 7, 3) := by decide +kernel
theorem zd238_12 : decode zxm238.2.1 12 = .ok (.sipush 128, 3) := by decide +kernel
theorem zd238_15 : decode zxm238.2.1 15 = .ok (.iaload, 1) := by decide +kernel
theorem zd238_16 : decode zxm238.2.1 16 = .ok (.iadd, 1) := by decide +kernel
theorem zd238_17 : decode zxm238.2.1 17 = .ok (.bipush 24, 2) := by decide +kernel
theorem zd238_19 : decode zxm238.2.1 19 = .ok (.irem, 1) := by decide +kernel
theorem zd238_20 : decode zxm238.2.1 20 = .ok (.ireturn, 1) := by decide +kernel
theorem zt_M_standsAt {x1 : Int} {g0 : (Int → Int)} {o : Int} (h : zf_M_standsAt x1 g0 = some o) : zv_Fn z_TB z_cl z_KX zy_M_standsAt zxm238 (0, 0) [.inr 0, .inl x1] [] [g0] (some o) [] [g0] := zv_meth (K := (z_KF13, z_KC13, z_KL13, z_KT13, [], [], [], none)) (FT := z_FT) (MT := z_MT) (n := 2) zxp238 (z_ks13 _ (fun _ h => List.mem_cons_of_mem _ h) _ _ _ _ (fun j r h _ => by cases h)) (fun _ _ => zs_KX_p) zyw_M_standsAt (fun va F G h => by obtain ⟨rfl, _⟩ := h; rfl) (fun va F G h => by obtain ⟨rfl, _⟩ := h; rfl) rfl fun good va F G hB hret hvret hP => by
  obtain ⟨rfl, rfl, rfl⟩ := hP
  unfold zf_M_standsAt at h
  refine zv_ald hB zd238_0 rfl rfl rfl ?_
  refine zv_getr hB zd238_1 rfl ?_
  refine zv_con hB zd238_4 rfl ?_
  refine zv_ild hB zd238_5 rfl rfl ?_
  refine zv_addw hB zd238_6 ?_
  obtain ⟨c1, h⟩ := zi_if h
  refine zv_iald hB zd238_7 rfl rfl (zi_ix_ok c1).1 (zi_ix_ok c1).2 (fun _ _ => ?_)
  refine zv_ald hB zd238_8 rfl rfl rfl ?_
  refine zv_getr hB zd238_9 rfl ?_
  refine zv_con hB zd238_12 rfl ?_
  refine zv_iald hB zd238_15 rfl rfl (by decide) (by decide) (fun _ _ => ?_)
  refine zv_addw hB zd238_16 ?_
  refine zv_con hB zd238_17 rfl ?_
  refine zv_remw hB zd238_19 (by decide) ?_
  have hw := Option.some.inj h
  subst hw
  exact hret _ _ _ _ _ zd238_20 (by trivial) ⟨rfl, rfl, rfl⟩
/-! M_starIs (II)I -/
-- names: 0 StarTalesModel('arg', 0), 1 (0, 422)(0, 12, 0)
-- fields: ; arrays: g0 = 1; out: [('ret', None)]
abbrev zy_M_starIs : zNL := (2, [(0, 12)], [], [(0, 12, 0, 1)], [(1, 0, 422, 0)])
theorem zyw_M_starIs : zv_wf zy_M_starIs = true := by decide +kernel
theorem zye_M_starIs : zv_ek2 zy_M_starIs = true := by decide +kernel
def zf_M_starIs (x1 : Int) (x2 : Int) (g0 : (Int → Int)) : Option (Int) := (zf_M_isTold x1 g0).bind fun r1 => (if r1 = 0 then (some (-1)) else (if x2 = 0 then (cond (zi_ix (zi_w (0 + x1)) 422) (some (g0 (zi_w (0 + x1)))) none) else (if x2 = 1 then (cond (zi_ix (zi_w (24 + x1)) 422) (some (g0 (zi_w (24 + x1)))) none) else (if x2 = 2 then (cond (zi_ix (zi_w (48 + x1)) 422) (some (g0 (zi_w (48 + x1)))) none) else (if x2 = 3 then ((zf_M_standsAt x1 g0).bind fun r10 => (some r10)) else (if x2 = 4 then (cond (zi_ix (zi_w (72 + x1)) 422) (some (zi_w ((g0 (zi_w (72 + x1))) + 3))) none) else (if x2 = 5 then (cond (zi_ix (zi_w (96 + x1)) 422) (some (zi_w ((g0 (zi_w (96 + x1))) + 3))) none) else (some (-1)))))))))
theorem zd237_0 : decode zxm237.2.1 0 = .ok (.aload_n 0, 1) := by decide +kernel
theorem zd237_1 : decode zxm237.2.1 1 = .ok (.iload_n 1, 1) := by decide +kernel
theorem zd237_2 : decode zxm237.2.1 2 = .ok (.invokevirtual 157, 3) := by decide +kernel
theorem zd237_5 : decode zxm237.2.1 5 = .ok (.ifCond .ne 5, 3) := by decide +kernel
theorem zd237_8 : decode zxm237.2.1 8 = .ok (.iconst (-1), 1) := by decide +kernel
theorem zd237_9 : decode zxm237.2.1 9 = .ok (.ireturn, 1) := by decide +kernel
theorem zd237_10 : decode zxm237.2.1 10 = .ok (.iload_n 2, 1) := by decide +kernel
theorem zd237_11 : decode zxm237.2.1 11 = .ok (.tableswitch 96 0 5 #[37, 46, 56, 66, 72, 84], 37) := by decide +kernel
theorem zd237_48 : decode zxm237.2.1 48 = .ok (.aload_n 0, 1) := by decide +kernel
theorem zd237_49 : decode zxm237.2.1 49 = .ok (.getfield 7, 3) := by decide +kernel
theorem zd237_52 : decode zxm237.2.1 52 = .ok (.iconst 0, 1) := by decide +kernel
theorem zd237_53 : decode zxm237.2.1 53 = .ok (.iload_n 1, 1) := by decide +kernel
theorem zd237_54 : decode zxm237.2.1 54 = .ok (.iadd, 1) := by decide +kernel
theorem zd237_55 : decode zxm237.2.1 55 = .ok (.iaload, 1) := by decide +kernel
theorem zd237_56 : decode zxm237.2.1 56 = .ok (.ireturn, 1) := by decide +kernel
theorem zd237_57 : decode zxm237.2.1 57 = .ok (.aload_n 0, 1) := by decide +kernel
theorem zd237_58 : decode zxm237.2.1 58 = .ok (.getfield 7, 3) := by decide +kernel
theorem zd237_61 : decode zxm237.2.1 61 = .ok (.bipush 24, 2) := by decide +kernel
theorem zd237_63 : decode zxm237.2.1 63 = .ok (.iload_n 1, 1) := by decide +kernel
theorem zd237_64 : decode zxm237.2.1 64 = .ok (.iadd, 1) := by decide +kernel
theorem zd237_65 : decode zxm237.2.1 65 = .ok (.iaload, 1) := by decide +kernel
theorem zd237_66 : decode zxm237.2.1 66 = .ok (.ireturn, 1) := by decide +kernel
theorem zd237_67 : decode zxm237.2.1 67 = .ok (.aload_n 0, 1) := by decide +kernel
theorem zd237_68 : decode zxm237.2.1 68 = .ok (.getfield 7, 3) := by decide +kernel
theorem zd237_71 : decode zxm237.2.1 71 = .ok (.bipush 48, 2) := by decide +kernel
theorem zd237_73 : decode zxm237.2.1 73 = .ok (.iload_n 1, 1) := by decide +kernel
theorem zd237_74 : decode zxm237.2.1 74 = .ok (.iadd, 1) := by decide +kernel
theorem zd237_75 : decode zxm237.2.1 75 = .ok (.iaload, 1) := by decide +kernel
theorem zd237_76 : decode zxm237.2.1 76 = .ok (.ireturn, 1) := by decide +kernel
theorem zd237_77 : decode zxm237.2.1 77 = .ok (.aload_n 0, 1) := by decide +kernel
theorem zd237_78 : decode zxm237.2.1 78 = .ok (.iload_n 1, 1) := by decide +kernel
theorem zd237_79 : decode zxm237.2.1 79 = .ok (.invokevirtual 281, 3) := by decide +kernel
theorem zd237_82 : decode zxm237.2.1 82 = .ok (.ireturn, 1) := by decide +kernel
theorem zd237_83 : decode zxm237.2.1 83 = .ok (.aload_n 0, 1) := by decide +kernel
theorem zd237_84 : decode zxm237.2.1 84 = .ok (.getfield 7, 3) := by decide +kernel
theorem zd237_87 : decode zxm237.2.1 87 = .ok (.bipush 72, 2) := by decide +kernel
theorem zd237_89 : decode zxm237.2.1 89 = .ok (.iload_n 1, 1) := by decide +kernel
theorem zd237_90 : decode zxm237.2.1 90 = .ok (.iadd, 1) := by decide +kernel
theorem zd237_91 : decode zxm237.2.1 91 = .ok (.iaload, 1) := by decide +kernel
theorem zd237_92 : decode zxm237.2.1 92 = .ok (.iconst 3, 1) := by decide +kernel
theorem zd237_93 : decode zxm237.2.1 93 = .ok (.iadd, 1) := by decide +kernel
theorem zd237_94 : decode zxm237.2.1 94 = .ok (.ireturn, 1) := by decide +kernel
theorem zd237_95 : decode zxm237.2.1 95 = .ok (.aload_n 0, 1) := by decide +kernel
theorem zd237_96 : decode zxm237.2.1 96 = .ok (.getfield 7, 3) := by decide +kernel
theorem zd237_99 : decode zxm237.2.1 99 = .ok (.bipush 96, 2) := by decide +kernel
theorem zd237_101 : decode zxm237.2.1 101 = .ok (.iload_n 1, 1) := by decide +kernel
theorem zd237_102 : decode zxm237.2.1 102 = .ok (.iadd, 1) := by decide +kernel
theorem zd237_103 : decode zxm237.2.1 103 = .ok (.iaload, 1) := by decide +kernel
theorem zd237_104 : decode zxm237.2.1 104 = .ok (.iconst 3, 1) := by decide +kernel
theorem zd237_105 : decode zxm237.2.1 105 = .ok (.iadd, 1) := by decide +kernel
theorem zd237_106 : decode zxm237.2.1 106 = .ok (.ireturn, 1) := by decide +kernel
theorem zd237_107 : decode zxm237.2.1 107 = .ok (.iconst (-1), 1) := by decide +kernel
theorem zd237_108 : decode zxm237.2.1 108 = .ok (.ireturn, 1) := by decide +kernel
theorem zt_M_starIs {x1 : Int} {x2 : Int} {g0 : (Int → Int)} {o : Int} (h : zf_M_starIs x1 x2 g0 = some o) : zv_Fn z_TB z_cl z_KX zy_M_starIs zxm237 (2, 120) [.inr 0, .inl x1, .inl x2] [] [g0] (some o) [] [g0] := zv_meth (K := (z_KF13, z_KC13, z_KL13, z_KT13, [], [], [], none)) (FT := z_FT) (MT := z_MT) (n := 3) zxp237 (z_ks13 _ (fun _ h => List.mem_cons_of_mem _ h) _ _ _ _ (fun j r h _ => by cases h)) (fun _ _ => zs_KX_p) zyw_M_starIs (fun va F G h => by obtain ⟨rfl, _⟩ := h; rfl) (fun va F G h => by obtain ⟨rfl, _⟩ := h; rfl) rfl fun good va F G hB hret hvret hP => by
  obtain ⟨rfl, rfl, rfl⟩ := hP
  unfold zf_M_starIs at h
  refine zv_ald hB zd237_0 rfl rfl rfl ?_
  refine zv_ild hB zd237_1 rfl rfl ?_
  obtain ⟨r1, hr1, h⟩ := zi_bind h
  refine zv_cv hB (zv_emq (va2 := [.inr 0, .inl x1]) (F := []) (F' := []) (G := [g0]) (G' := [g0]) (ρ := [0, 1]) (φ := []) (ψ := [0]) [] [some 0] zyw_M_isTold zyw_M_starIs zye_M_starIs (by decide +kernel) (zt_M_isTold hr1) trivial ⟨rfl, trivial⟩ rfl rfl rfl rfl rfl rfl rfl) zd237_2 zxt203 rfl (by decide) (by decide) rfl ?_
  refine zv_zne hB zd237_5 rfl (fun hc2 => ?_) (fun hc2 => ?_)
  · rw [if_neg hc2] at h
    refine zv_ild hB zd237_10 rfl rfl ?_
    refine zv_tsw hB zd237_11 rfl ?_
    refine ⟨fun hc3 => ⟨_, rfl, ?_⟩, fun hc3 => ?_⟩
    · replace hc3 : x2 = 0 := hc3
      rw [if_pos hc3] at h
      refine zv_ald hB zd237_48 rfl rfl rfl ?_
      refine zv_getr hB zd237_49 rfl ?_
      refine zv_con hB zd237_52 rfl ?_
      refine zv_ild hB zd237_53 rfl rfl ?_
      refine zv_addw hB zd237_54 ?_
      obtain ⟨c4, h⟩ := zi_if h
      refine zv_iald hB zd237_55 rfl rfl (zi_ix_ok c4).1 (zi_ix_ok c4).2 (fun _ _ => ?_)
      have hw := Option.some.inj h
      subst hw
      exact hret _ _ _ _ _ zd237_56 (by trivial) ⟨rfl, rfl, rfl⟩
    replace hc3 : x2 ≠ 0 := hc3
    rw [if_neg hc3] at h
    refine ⟨fun hc5 => ⟨_, rfl, ?_⟩, fun hc5 => ?_⟩
    · replace hc5 : x2 = 1 := hc5
      rw [if_pos hc5] at h
      refine zv_ald hB zd237_57 rfl rfl rfl ?_
      refine zv_getr hB zd237_58 rfl ?_
      refine zv_con hB zd237_61 rfl ?_
      refine zv_ild hB zd237_63 rfl rfl ?_
      refine zv_addw hB zd237_64 ?_
      obtain ⟨c6, h⟩ := zi_if h
      refine zv_iald hB zd237_65 rfl rfl (zi_ix_ok c6).1 (zi_ix_ok c6).2 (fun _ _ => ?_)
      have hw := Option.some.inj h
      subst hw
      exact hret _ _ _ _ _ zd237_66 (by trivial) ⟨rfl, rfl, rfl⟩
    replace hc5 : x2 ≠ 1 := hc5
    rw [if_neg hc5] at h
    refine ⟨fun hc7 => ⟨_, rfl, ?_⟩, fun hc7 => ?_⟩
    · replace hc7 : x2 = 2 := hc7
      rw [if_pos hc7] at h
      refine zv_ald hB zd237_67 rfl rfl rfl ?_
      refine zv_getr hB zd237_68 rfl ?_
      refine zv_con hB zd237_71 rfl ?_
      refine zv_ild hB zd237_73 rfl rfl ?_
      refine zv_addw hB zd237_74 ?_
      obtain ⟨c8, h⟩ := zi_if h
      refine zv_iald hB zd237_75 rfl rfl (zi_ix_ok c8).1 (zi_ix_ok c8).2 (fun _ _ => ?_)
      have hw := Option.some.inj h
      subst hw
      exact hret _ _ _ _ _ zd237_76 (by trivial) ⟨rfl, rfl, rfl⟩
    replace hc7 : x2 ≠ 2 := hc7
    rw [if_neg hc7] at h
    refine ⟨fun hc9 => ⟨_, rfl, ?_⟩, fun hc9 => ?_⟩
    · replace hc9 : x2 = 3 := hc9
      rw [if_pos hc9] at h
      refine zv_ald hB zd237_77 rfl rfl rfl ?_
      refine zv_ild hB zd237_78 rfl rfl ?_
      obtain ⟨r10, hr10, h⟩ := zi_bind h
      refine zv_cv hB (zv_emq (va2 := [.inr 0, .inl x1]) (F := []) (F' := []) (G := [g0]) (G' := [g0]) (ρ := [0, 1]) (φ := []) (ψ := [0]) [] [some 0] zyw_M_standsAt zyw_M_starIs zye_M_starIs (by decide +kernel) (zt_M_standsAt hr10) trivial ⟨rfl, trivial⟩ rfl rfl rfl rfl rfl rfl rfl) zd237_79 zxt238 rfl (by decide) (by decide) rfl ?_
      have hw := Option.some.inj h
      subst hw
      exact hret _ _ _ _ _ zd237_82 (by trivial) ⟨rfl, rfl, rfl⟩
    replace hc9 : x2 ≠ 3 := hc9
    rw [if_neg hc9] at h
    refine ⟨fun hc11 => ⟨_, rfl, ?_⟩, fun hc11 => ?_⟩
    · replace hc11 : x2 = 4 := hc11
      rw [if_pos hc11] at h
      refine zv_ald hB zd237_83 rfl rfl rfl ?_
      refine zv_getr hB zd237_84 rfl ?_
      refine zv_con hB zd237_87 rfl ?_
      refine zv_ild hB zd237_89 rfl rfl ?_
      refine zv_addw hB zd237_90 ?_
      obtain ⟨c12, h⟩ := zi_if h
      refine zv_iald hB zd237_91 rfl rfl (zi_ix_ok c12).1 (zi_ix_ok c12).2 (fun _ _ => ?_)
      refine zv_con hB zd237_92 rfl ?_
      refine zv_addw hB zd237_93 ?_
      have hw := Option.some.inj h
      subst hw
      exact hret _ _ _ _ _ zd237_94 (by trivial) ⟨rfl, rfl, rfl⟩
    replace hc11 : x2 ≠ 4 := hc11
    rw [if_neg hc11] at h
    refine ⟨fun hc13 => ⟨_, rfl, ?_⟩, fun hc13 => ?_⟩
    · replace hc13 : x2 = 5 := hc13
      rw [if_pos hc13] at h
      refine zv_ald hB zd237_95 rfl rfl rfl ?_
      refine zv_getr hB zd237_96 rfl ?_
      refine zv_con hB zd237_99 rfl ?_
      refine zv_ild hB zd237_101 rfl rfl ?_
      refine zv_addw hB zd237_102 ?_
      obtain ⟨c14, h⟩ := zi_if h
      refine zv_iald hB zd237_103 rfl rfl (zi_ix_ok c14).1 (zi_ix_ok c14).2 (fun _ _ => ?_)
      refine zv_con hB zd237_104 rfl ?_
      refine zv_addw hB zd237_105 ?_
      have hw := Option.some.inj h
      subst hw
      exact hret _ _ _ _ _ zd237_106 (by trivial) ⟨rfl, rfl, rfl⟩
    replace hc13 : x2 ≠ 5 := hc13
    rw [if_neg hc13] at h
    refine ⟨_, rfl, ?_⟩
    refine zv_con hB zd237_107 rfl ?_
    have hw := Option.some.inj h
    subst hw
    exact hret _ _ _ _ _ zd237_108 (by trivial) ⟨rfl, rfl, rfl⟩
  · rw [if_pos hc2] at h
    refine zv_con hB zd237_8 rfl ?_
    have hw := Option.some.inj h
    subst hw
    exact hret _ _ _ _ _ zd237_9 (by trivial) ⟨rfl, rfl, rfl⟩
/-! M_toRight (II)I -/
-- names: 
-- fields: ; arrays: ; out: [('ret', None)]
abbrev zy_M_toRight : zNL := (0, [], [], [], [])
theorem zyw_M_toRight : zv_wf zy_M_toRight = true := by decide +kernel
theorem zye_M_toRight : zv_ek2 zy_M_toRight = true := by decide +kernel
def zf_M_toRight (x0 : Int) (x1 : Int) : Option (Int) := if 12 < (zi_rem (zi_w ((zi_w (x1 - x0)) + 24)) 24) then (some (zi_w ((zi_rem (zi_w ((zi_w (x1 - x0)) + 24)) 24) - 24))) else (some (zi_rem (zi_w ((zi_w (x1 - x0)) + 24)) 24))
theorem zd242_0 : decode zxm242.2.1 0 = .ok (.iload_n 1, 1) := by decide +kernel
theorem zd242_1 : decode zxm242.2.1 1 = .ok (.iload_n 0, 1) := by decide +kernel
theorem zd242_2 : decode zxm242.2.1 2 = .ok (.isub, 1) := by decide +kernel
theorem zd242_3 : decode zxm242.2.1 3 = .ok (.bipush 24, 2) := by decide +kernel
theorem zd242_5 : decode zxm242.2.1 5 = .ok (.iadd, 1) := by decide +kernel
theorem zd242_6 : decode zxm242.2.1 6 = .ok (.bipush 24, 2) := by decide +kernel
theorem zd242_8 : decode zxm242.2.1 8 = .ok (.irem, 1) := by decide +kernel
theorem zd242_9 : decode zxm242.2.1 9 = .ok (.istore_n 2, 1) := by decide +kernel
theorem zd242_10 : decode zxm242.2.1 10 = .ok (.iload_n 2, 1) := by decide +kernel
theorem zd242_11 : decode zxm242.2.1 11 = .ok (.bipush 12, 2) := by decide +kernel
theorem zd242_13 : decode zxm242.2.1 13 = .ok (.if_icmp .le 10, 3) := by decide +kernel
theorem zd242_16 : decode zxm242.2.1 16 = .ok (.iload_n 2, 1) := by decide +kernel
theorem zd242_17 : decode zxm242.2.1 17 = .ok (.bipush 24, 2) := by decide +kernel
theorem zd242_19 : decode zxm242.2.1 19 = .ok (.isub, 1) := by decide +kernel
theorem zd242_20 : decode zxm242.2.1 20 = .ok (.goto 4, 3) := by decide +kernel
theorem zd242_23 : decode zxm242.2.1 23 = .ok (.iload_n 2, 1) := by decide +kernel
theorem zd242_24 : decode zxm242.2.1 24 = .ok (.ireturn, 1) := by decide +kernel
theorem zt_M_toRight {x0 : Int} {x1 : Int} {o : Int} (h : zf_M_toRight x0 x1 = some o) : zv_Fn z_TB z_cl z_KX zy_M_toRight zxm242 (0, 0) [.inl x0, .inl x1] [] [] (some o) [] [] := zv_meth (K := (z_KF13, z_KC13, z_KL13, z_KT13, [], [], [], none)) (FT := z_FT) (MT := z_MT) (n := 2) zxp242 (z_ks13 _ (fun _ h => List.mem_cons_of_mem _ h) _ _ _ _ (fun j r h _ => by cases h)) (fun _ _ => zs_KX_p) zyw_M_toRight (fun va F G h => by obtain ⟨rfl, _⟩ := h; rfl) (fun va F G h => by obtain ⟨rfl, _⟩ := h; rfl) rfl fun good va F G hB hret hvret hP => by
  obtain ⟨rfl, rfl, rfl⟩ := hP
  unfold zf_M_toRight at h
  refine zv_ild hB zd242_0 rfl rfl ?_
  refine zv_ild hB zd242_1 rfl rfl ?_
  refine zv_subw hB zd242_2 ?_
  refine zv_con hB zd242_3 rfl ?_
  refine zv_addw hB zd242_5 ?_
  refine zv_con hB zd242_6 rfl ?_
  refine zv_remw hB zd242_8 (by decide) ?_
  refine zv_ist hB zd242_9 rfl rfl rfl ?_
  refine zv_ild hB zd242_10 rfl rfl ?_
  refine zv_con hB zd242_11 rfl ?_
  refine zv_cle hB zd242_13 rfl (fun hc1 => ?_) (fun hc1 => ?_)
  · rw [if_neg (Int.not_lt.mpr hc1)] at h
    refine zv_ild hB zd242_23 rfl rfl ?_
    have hw := Option.some.inj h
    subst hw
    exact hret _ _ _ _ _ zd242_24 (by trivial) ⟨rfl, rfl, rfl⟩
  · rw [if_pos hc1] at h
    refine zv_ild hB zd242_16 rfl rfl ?_
    refine zv_con hB zd242_17 rfl ?_
    refine zv_subw hB zd242_19 ?_
    refine zv_goto hB zd242_20 rfl ?_
    have hw := Option.some.inj h
    subst hw
    exact hret _ _ _ _ _ zd242_24 (by trivial) ⟨rfl, rfl, rfl⟩
/-! M_size (I)I -/
-- names: 
-- fields: ; arrays: ; out: [('ret', None)]
abbrev zy_M_size : zNL := (0, [], [], [], [])
theorem zyw_M_size : zv_wf zy_M_size = true := by decide +kernel
theorem zye_M_size : zv_ek2 zy_M_size = true := by decide +kernel
def zf_M_size (x0 : Int) : Option (Int) := if x0 < 0 then (some (zi_w (-x0))) else (some x0)
theorem zd243_0 : decode zxm243.2.1 0 = .ok (.iload_n 0, 1) := by decide +kernel
theorem zd243_1 : decode zxm243.2.1 1 = .ok (.ifCond .ge 8, 3) := by decide +kernel
theorem zd243_4 : decode zxm243.2.1 4 = .ok (.iload_n 0, 1) := by decide +kernel
theorem zd243_5 : decode zxm243.2.1 5 = .ok (.ineg, 1) := by decide +kernel
theorem zd243_6 : decode zxm243.2.1 6 = .ok (.goto 4, 3) := by decide +kernel
theorem zd243_9 : decode zxm243.2.1 9 = .ok (.iload_n 0, 1) := by decide +kernel
theorem zd243_10 : decode zxm243.2.1 10 = .ok (.ireturn, 1) := by decide +kernel
theorem zt_M_size {x0 : Int} {o : Int} (h : zf_M_size x0 = some o) : zv_Fn z_TB z_cl z_KX zy_M_size zxm243 (0, 0) [.inl x0] [] [] (some o) [] [] := zv_meth (K := (z_KF13, z_KC13, z_KL13, z_KT13, [], [], [], none)) (FT := z_FT) (MT := z_MT) (n := 1) zxp243 (z_ks13 _ (fun _ h => List.mem_cons_of_mem _ h) _ _ _ _ (fun j r h _ => by cases h)) (fun _ _ => zs_KX_p) zyw_M_size (fun va F G h => by obtain ⟨rfl, _⟩ := h; rfl) (fun va F G h => by obtain ⟨rfl, _⟩ := h; rfl) rfl fun good va F G hB hret hvret hP => by
  obtain ⟨rfl, rfl, rfl⟩ := hP
  unfold zf_M_size at h
  refine zv_ild hB zd243_0 rfl rfl ?_
  refine zv_zge hB zd243_1 rfl (fun hc1 => ?_) (fun hc1 => ?_)
  · rw [if_neg (Int.not_lt.mpr hc1)] at h
    refine zv_ild hB zd243_9 rfl rfl ?_
    have hw := Option.some.inj h
    subst hw
    exact hret _ _ _ _ _ zd243_10 (by trivial) ⟨rfl, rfl, rfl⟩
  · rw [if_pos hc1] at h
    refine zv_ild hB zd243_4 rfl rfl ?_
    refine zv_negw hB zd243_5 ?_
    refine zv_goto hB zd243_6 rfl ?_
    have hw := Option.some.inj h
    subst hw
    exact hret _ _ _ _ _ zd243_10 (by trivial) ⟨rfl, rfl, rfl⟩
/-! M_hasClause (I)Z -/
-- names: 0 StarTalesModel('arg', 0), 1 (0, 14)(0, 12, 21)
-- fields: f0 = 0.clauses_; arrays: g0 = 1; out: [('ret', None)]
abbrev zy_M_hasClause : zNL := (2, [(0, 12)], [(0, 12, 13, 0)], [(0, 12, 21, 1)], [(1, 0, 14, 0)])
theorem zyw_M_hasClause : zv_wf zy_M_hasClause = true := by decide +kernel
theorem zye_M_hasClause : zv_ek2 zy_M_hasClause = true := by decide +kernel
def zf_M_hasClause_l0_b (x1 : Int) (f0 : Int) (g0 : (Int → Int)) (rec : Int → Option (((Unit) ⊕ (Int)))) (x2 : Int) : Option (((Unit) ⊕ (Int))) := if x2 < f0 then (cond (zi_ix x2 14) (if (g0 x2) = x1 then (some (.inr 1)) else (rec (zi_w (x2 + 1)))) none) else (some (.inl ()))
def zf_M_hasClause_l0 (x1 : Int) (f0 : Int) (g0 : (Int → Int)) : Nat → Int → Option (((Unit) ⊕ (Int)))
  | 0, _ => none
  | n + 1, x2 => zf_M_hasClause_l0_b x1 f0 g0 (zf_M_hasClause_l0 x1 f0 g0 n) x2
def zf_M_hasClause (x1 : Int) (f0 : Int) (g0 : (Int → Int)) : Option (Int) := (zf_M_hasClause_l0 x1 f0 g0 zi_fu 0).bind fun q4 => Sum.elim (fun e5 => (some 0)) (fun w6 => some w6) q4
theorem zd244_0 : decode zxm244.2.1 0 = .ok (.iconst 0, 1) := by decide +kernel
theorem zd244_1 : decode zxm244.2.1 1 = .ok (.istore_n 2, 1) := by decide +kernel
theorem zd244_2 : decode zxm244.2.1 2 = .ok (.iload_n 2, 1) := by decide +kernel
theorem zd244_3 : decode zxm244.2.1 3 = .ok (.aload_n 0, 1) := by decide +kernel
theorem zd244_4 : decode zxm244.2.1 4 = .ok (.getfield 268, 3) := by decide +kernel
theorem zd244_7 : decode zxm244.2.1 7 = .ok (.if_icmp .ge 21, 3) := by decide +kernel
theorem zd244_10 : decode zxm244.2.1 10 = .ok (.aload_n 0, 1) := by decide +kernel
theorem zd244_11 : decode zxm244.2.1 11 = .ok (.getfield 44, 3) := by decide +kernel
theorem zd244_14 : decode zxm244.2.1 14 = .ok (.iload_n 2, 1) := by decide +kernel
theorem zd244_15 : decode zxm244.2.1 15 = .ok (.iaload, 1) := by decide +kernel
theorem zd244_16 : decode zxm244.2.1 16 = .ok (.iload_n 1, 1) := by decide +kernel
theorem zd244_17 : decode zxm244.2.1 17 = .ok (.if_icmp .ne 5, 3) := by decide +kernel
theorem zd244_20 : decode zxm244.2.1 20 = .ok (.iconst 1, 1) := by decide +kernel
theorem zd244_21 : decode zxm244.2.1 21 = .ok (.ireturn, 1) := by decide +kernel
theorem zd244_22 : decode zxm244.2.1 22 = .ok (.iinc 2 1, 3) := by decide +kernel
theorem zd244_25 : decode zxm244.2.1 25 = .ok (.goto (-23), 3) := by decide +kernel
theorem zd244_28 : decode zxm244.2.1 28 = .ok (.iconst 0, 1) := by decide +kernel
theorem zd244_29 : decode zxm244.2.1 29 = .ok (.ireturn, 1) := by decide +kernel
theorem zt_M_hasClause {x1 : Int} {f0 : Int} {g0 : (Int → Int)} {o : Int} (h : zf_M_hasClause x1 f0 g0 = some o) : zv_Fn z_TB z_cl z_KX zy_M_hasClause zxm244 (0, 0) [.inr 0, .inl x1] [.inl f0] [g0] (some o) [.inl f0] [g0] := zv_meth (K := (z_KF13, z_KC13, z_KL13, z_KT13, [], [], [], none)) (FT := z_FT) (MT := z_MT) (n := 2) zxp244 (z_ks13 _ (fun _ h => List.mem_cons_of_mem _ h) _ _ _ _ (fun j r h _ => by cases h)) (fun _ _ => zs_KX_p) zyw_M_hasClause (fun va F G h => by obtain ⟨rfl, _⟩ := h; rfl) (fun va F G h => by obtain ⟨rfl, _⟩ := h; rfl) rfl fun good va F G hB hret hvret hP => by
  obtain ⟨rfl, rfl, rfl⟩ := hP
  have l0 : ∀ (n : Nat) (x1 : Int) (x2 : Int) (q : ((Unit) ⊕ (Int))), zf_M_hasClause_l0 x1 f0 g0 n x2 = some q → (Sum.elim (fun e : Unit => good 28 [.inr 1000, .inr 1000, .inr 1000] [] [.inl f0] [g0]) (fun w : Int => w = o) q) → good 2 [.inr 0, .inl x1, .inl x2] [] [.inl f0] [g0] := by
    intro n
    induction n with
    | zero => intro x1 x2 q h; exact absurd (show none = some q from h) (fun h => by cases h)
    | succ n ih =>
      intro x1 x2 q h hK
      replace h : zf_M_hasClause_l0_b x1 f0 g0 (zf_M_hasClause_l0 x1 f0 g0 n) x2 = some q := h
      unfold zf_M_hasClause_l0_b at h
      refine zv_ild hB zd244_2 rfl rfl ?_
      refine zv_ald hB zd244_3 rfl rfl rfl ?_
      refine zv_getf hB zd244_4 rfl rfl (fun _ _ => ?_)
      refine zv_cge hB zd244_7 rfl (fun hc1 => ?_) (fun hc1 => ?_)
      · rw [if_neg (Int.not_lt.mpr hc1)] at h
        have hq := Option.some.inj h
        subst hq
        refine zv_wk hB (L' := [.inr 1000, .inr 1000, .inr 1000]) (F' := [.inl f0]) ⟨fun (h : zv_is (.inr 1000)) => (Nat.lt_irrefl 1000 h).elim, fun (h : zv_is (.inr 1000)) => (Nat.lt_irrefl 1000 h).elim, fun (h : zv_is (.inr 1000)) => (Nat.lt_irrefl 1000 h).elim, trivial⟩ ⟨fun _ => rfl, trivial⟩ ?_
        exact hK
      · rw [if_pos hc1] at h
        refine zv_ald hB zd244_10 rfl rfl rfl ?_
        refine zv_getr hB zd244_11 rfl ?_
        refine zv_ild hB zd244_14 rfl rfl ?_
        obtain ⟨c2, h⟩ := zi_if h
        refine zv_iald hB zd244_15 rfl rfl (zi_ix_ok c2).1 (zi_ix_ok c2).2 (fun _ _ => ?_)
        refine zv_ild hB zd244_16 rfl rfl ?_
        refine zv_cne hB zd244_17 rfl (fun hc3 => ?_) (fun hc3 => ?_)
        · rw [if_neg hc3] at h
          refine zv_iincw hB zd244_22 rfl rfl ?_
          refine zv_goto hB zd244_25 rfl ?_
          exact ih _ _ q h hK
        · rw [if_pos hc3] at h
          refine zv_con hB zd244_20 rfl ?_
          have hw : 1 = o := zi_rk (Option.some.inj h) hK
          subst hw
          exact hret _ _ _ _ _ zd244_21 (by constructor <;> decide) ⟨rfl, rfl, rfl⟩
  unfold zf_M_hasClause at h
  refine zv_con hB zd244_0 rfl ?_
  refine zv_ist hB zd244_1 rfl rfl rfl ?_
  obtain ⟨q4, hq4, h⟩ := zi_bind h
  refine l0 _ _ _ q4 hq4 ?_
  rcases q4 with e5 | w6
  · replace h := zi_sl h
    show good 28 [.inr 1000, .inr 1000, .inr 1000] [] [.inl f0] [g0]
    refine zv_con hB zd244_28 rfl ?_
    have hw := Option.some.inj h
    subst hw
    exact hret _ _ _ _ _ zd244_29 (by constructor <;> decide) ⟨rfl, rfl, rfl⟩
  · exact Option.some.inj h
end
section
/-! Methods as functions, and that they do what these do. -/
/-! M_feels ()V -/
-- names: 0 StarTalesModel('arg', 0), 1 (0, 13)(0, 12, 26), 2 (0, 422)(0, 12, 0)
-- fields: ; arrays: g0 = 1, g1 = 2; out: [('g', 0)]
abbrev zy_M_feels : zNL := (3, [(0, 12)], [], [(0, 12, 26, 1), (0, 12, 0, 2)], [(1, 0, 13, 0), (2, 0, 422, 1)])
theorem zyw_M_feels : zv_wf zy_M_feels = true := by decide +kernel
theorem zye_M_feels : zv_ek2 zy_M_feels = true := by decide +kernel
def zf_M_feels_l0_b (rec : Int → (Int → Int) → Option ((Int → Int))) (x1 : Int) (g0 : (Int → Int)) : Option ((Int → Int)) := if x1 < 13 then (cond (zi_ix x1 13) (rec (zi_w (x1 + 1)) (zv_up g0 x1 0)) none) else (some g0)
def zf_M_feels_l0 : Nat → Int → (Int → Int) → Option ((Int → Int))
  | 0, _, _ => none
  | n + 1, x1, g0 => zf_M_feels_l0_b (zf_M_feels_l0 n) x1 g0
def zf_M_feels (g0 : (Int → Int)) (g1 : (Int → Int)) : Option ((Int → Int)) := (zf_M_feels_l0 zi_fu 0 g0).bind fun q3 => (some (zv_up (zv_up q3 0 (g1 128)) 1 (g1 129)))
theorem zd246_0 : decode zxm246.2.1 0 = .ok (.iconst 0, 1) := by decide +kernel
theorem zd246_1 : decode zxm246.2.1 1 = .ok (.istore_n 1, 1) := by decide +kernel
theorem zd246_2 : decode zxm246.2.1 2 = .ok (.iload_n 1, 1) := by decide +kernel
theorem zd246_3 : decode zxm246.2.1 3 = .ok (.bipush 13, 2) := by decide +kernel
theorem zd246_5 : decode zxm246.2.1 5 = .ok (.if_icmp .ge 16, 3) := by decide +kernel
theorem zd246_8 : decode zxm246.2.1 8 = .ok (.aload_n 0, 1) := by decide +kernel
theorem zd246_9 : decode zxm246.2.1 9 = .ok (.getfield 59, 3) := by decide +kernel
theorem zd246_12 : decode zxm246.2.1 12 = .ok (.iload_n 1, 1) := by decide +kernel
theorem zd246_13 : decode zxm246.2.1 13 = .ok (.iconst 0, 1) := by decide +kernel
theorem zd246_14 : decode zxm246.2.1 14 = .ok (.iastore, 1) := by decide +kernel
theorem zd246_15 : decode zxm246.2.1 15 = .ok (.iinc 1 1, 3) := by decide +kernel
theorem zd246_18 : decode zxm246.2.1 18 = .ok (.goto (-16), 3) := by decide +kernel
theorem zd246_21 : decode zxm246.2.1 21 = .ok (.aload_n 0, 1) := by decide +kernel
theorem zd246_22 : decode zxm246.2.1 22 = .ok (.getfield 59, 3) := by decide +kernel
theorem zd246_25 : decode zxm246.2.1 25 = .ok (.iconst 0, 1) := by decide +kernel
theorem zd246_26 : decode zxm246.2.1 26 = .ok (.aload_n 0, 1) := by decide +kernel
theorem zd246_27 : decode zxm246.2.1 27 = .ok (.getfield 7, 3) := by decide +kernel
theorem zd246_30 : decode zxm246.2.1 30 = .ok (.sipush 128, 3) := by decide +kernel
theorem zd246_33 : decode zxm246.2.1 33 = .ok (.iaload, 1) := by decide +kernel
theorem zd246_34 : decode zxm246.2.1 34 = .ok (.iastore, 1) := by decide +kernel
theorem zd246_35 : decode zxm246.2.1 35 = .ok (.aload_n 0, 1) := by decide +kernel
theorem zd246_36 : decode zxm246.2.1 36 = .ok (.getfield 59, 3) := by decide +kernel
theorem zd246_39 : decode zxm246.2.1 39 = .ok (.iconst 1, 1) := by decide +kernel
theorem zd246_40 : decode zxm246.2.1 40 = .ok (.aload_n 0, 1) := by decide +kernel
theorem zd246_41 : decode zxm246.2.1 41 = .ok (.getfield 7, 3) := by decide +kernel
theorem zd246_44 : decode zxm246.2.1 44 = .ok (.sipush 129, 3) := by decide +kernel
theorem zd246_47 : decode zxm246.2.1 47 = .ok (.iaload, 1) := by decide +kernel
theorem zd246_48 : decode zxm246.2.1 48 = .ok (.iastore, 1) := by decide +kernel
theorem zd246_49 : decode zxm246.2.1 49 = .ok (.return_, 1) := by decide +kernel
theorem zt_M_feels {g0 : (Int → Int)} {g1 : (Int → Int)} {o : (Int → Int)} (h : zf_M_feels g0 g1 = some o) : zv_Fn z_TB z_cl z_KX zy_M_feels zxm246 (0, 0) [.inr 0] [] [g0, g1] none [] [o, g1] := zv_meth (K := (z_KF13, z_KC13, z_KL13, z_KT13, [], [], [], none)) (FT := z_FT) (MT := z_MT) (n := 1) zxp246 (z_ks13 _ (fun _ h => List.mem_cons_of_mem _ h) _ _ _ _ (fun j r h _ => by cases h)) (fun _ _ => zs_KX_p) zyw_M_feels (fun va F G h => by obtain ⟨rfl, _⟩ := h; rfl) (fun va F G h => by obtain ⟨rfl, _⟩ := h; rfl) rfl fun good va F G hB hret hvret hP => by
  obtain ⟨rfl, rfl, rfl⟩ := hP
  have l0 : ∀ (n : Nat) (x1 : Int) (g0 : (Int → Int)) (q : (Int → Int)), zf_M_feels_l0 n x1 g0 = some q → (good 21 [.inr 0, .inr 1000] [] [] [q, g1]) → good 2 [.inr 0, .inl x1] [] [] [g0, g1] := by
    intro n
    induction n with
    | zero => intro x1 g0 q h; exact absurd (show none = some q from h) (fun h => by cases h)
    | succ n ih =>
      intro x1 g0 q h hK
      replace h : zf_M_feels_l0_b (zf_M_feels_l0 n) x1 g0 = some q := h
      unfold zf_M_feels_l0_b at h
      refine zv_ild hB zd246_2 rfl rfl ?_
      refine zv_con hB zd246_3 rfl ?_
      refine zv_cge hB zd246_5 rfl (fun hc1 => ?_) (fun hc1 => ?_)
      · rw [if_neg (Int.not_lt.mpr hc1)] at h
        have hq := Option.some.inj h
        subst hq
        refine zv_wk hB (L' := [.inr 0, .inr 1000]) (F' := []) ⟨fun _ => rfl, fun (h : zv_is (.inr 1000)) => (Nat.lt_irrefl 1000 h).elim, trivial⟩ trivial ?_
        exact hK
      · rw [if_pos hc1] at h
        refine zv_ald hB zd246_8 rfl rfl rfl ?_
        refine zv_getr hB zd246_9 rfl ?_
        refine zv_ild hB zd246_12 rfl rfl ?_
        refine zv_con hB zd246_13 rfl ?_
        obtain ⟨c2, h⟩ := zi_if h
        refine zv_iast hB zd246_14 rfl rfl (zi_ix_ok c2).1 (zi_ix_ok c2).2 ?_
        refine zv_iincw hB zd246_15 rfl rfl ?_
        refine zv_goto hB zd246_18 rfl ?_
        exact ih _ _ q h hK
  unfold zf_M_feels at h
  refine zv_con hB zd246_0 rfl ?_
  refine zv_ist hB zd246_1 rfl rfl rfl ?_
  obtain ⟨q3, hq3, h⟩ := zi_bind h
  refine l0 _ _ _ q3 hq3 ?_
  show good 21 [.inr 0, .inr 1000] [] [] [q3, g1]
  refine zv_ald hB zd246_21 rfl rfl rfl ?_
  refine zv_getr hB zd246_22 rfl ?_
  refine zv_con hB zd246_25 rfl ?_
  refine zv_ald hB zd246_26 rfl rfl rfl ?_
  refine zv_getr hB zd246_27 rfl ?_
  refine zv_con hB zd246_30 rfl ?_
  refine zv_iald hB zd246_33 rfl rfl (by decide) (by decide) (fun _ _ => ?_)
  refine zv_iast hB zd246_34 rfl rfl (by decide) (by decide) ?_
  refine zv_ald hB zd246_35 rfl rfl rfl ?_
  refine zv_getr hB zd246_36 rfl ?_
  refine zv_con hB zd246_39 rfl ?_
  refine zv_ald hB zd246_40 rfl rfl rfl ?_
  refine zv_getr hB zd246_41 rfl ?_
  refine zv_con hB zd246_44 rfl ?_
  refine zv_iald hB zd246_47 rfl rfl (by decide) (by decide) (fun _ _ => ?_)
  refine zv_iast hB zd246_48 rfl rfl (by decide) (by decide) ?_
  have hw := Option.some.inj h
  subst hw
  exact hvret _ _ _ _ zd246_49 trivial ⟨rfl, rfl, rfl⟩
/-! M_feelsStar (I)V -/
-- names: 0 StarTalesModel('arg', 0), 1 (0, 13)(0, 12, 26), 2 (0, 422)(0, 12, 0)
-- fields: ; arrays: g0 = 1, g1 = 2; out: [('g', 0)]
abbrev zy_M_feelsStar : zNL := (3, [(0, 12)], [], [(0, 12, 26, 1), (0, 12, 0, 2)], [(1, 0, 13, 0), (2, 0, 422, 1)])
theorem zyw_M_feelsStar : zv_wf zy_M_feelsStar = true := by decide +kernel
theorem zye_M_feelsStar : zv_ek2 zy_M_feelsStar = true := by decide +kernel
def zf_M_feelsStar (x1 : Int) (g0 : (Int → Int)) (g1 : (Int → Int)) : Option ((Int → Int)) := (zf_M_feels g0 g1).bind fun r1 => (cond (zi_ix (zi_w (48 + x1)) 422) (cond (zi_ix (zi_w (24 + x1)) 422) ((zf_M_standsAt x1 g1).bind fun r4 => (some (zv_up (zv_up (zv_up (zv_up r1 2 x1) 3 (g1 (zi_w (48 + x1)))) 4 (g1 (zi_w (24 + x1)))) 5 r4))) none) none)
theorem zd245_0 : decode zxm245.2.1 0 = .ok (.aload_n 0, 1) := by decide +kernel
theorem zd245_1 : decode zxm245.2.1 1 = .ok (.invokevirtual 278, 3) := by decide +kernel
theorem zd245_4 : decode zxm245.2.1 4 = .ok (.aload_n 0, 1) := by decide +kernel
theorem zd245_5 : decode zxm245.2.1 5 = .ok (.getfield 59, 3) := by decide +kernel
theorem zd245_8 : decode zxm245.2.1 8 = .ok (.iconst 2, 1) := by decide +kernel
theorem zd245_9 : decode zxm245.2.1 9 = .ok (.iload_n 1, 1) := by decide +kernel
theorem zd245_10 : decode zxm245.2.1 10 = .ok (.iastore, 1) := by decide +kernel
theorem zd245_11 : decode zxm245.2.1 11 = .ok (.aload_n 0, 1) := by decide +kernel
theorem zd245_12 : decode zxm245.2.1 12 = .ok (.getfield 59, 3) := by decide +kernel
theorem zd245_15 : decode zxm245.2.1 15 = .ok (.iconst 3, 1) := by decide +kernel
theorem zd245_16 : decode zxm245.2.1 16 = .ok (.aload_n 0, 1) := by decide +kernel
theorem zd245_17 : decode zxm245.2.1 17 = .ok (.getfield 7, 3) := by decide +kernel
theorem zd245_20 : decode zxm245.2.1 20 = .ok (.bipush 48, 2) := by decide +kernel
theorem zd245_22 : decode zxm245.2.1 22 = .ok (.iload_n 1, 1) := by decide +kernel
theorem zd245_23 : decode zxm245.2.1 23 = .ok (.iadd, 1) := by decide +kernel
theorem zd245_24 : decode zxm245.2.1 24 = .ok (.iaload, 1) := by decide +kernel
theorem zd245_25 : decode zxm245.2.1 25 = .ok (.iastore, 1) := by decide +kernel
theorem zd245_26 : decode zxm245.2.1 26 = .ok (.aload_n 0, 1) := by decide +kernel
theorem zd245_27 : decode zxm245.2.1 27 = .ok (.getfield 59, 3) := by decide +kernel
theorem zd245_30 : decode zxm245.2.1 30 = .ok (.iconst 4, 1) := by decide +kernel
theorem zd245_31 : decode zxm245.2.1 31 = .ok (.aload_n 0, 1) := by decide +kernel
theorem zd245_32 : decode zxm245.2.1 32 = .ok (.getfield 7, 3) := by decide +kernel
theorem zd245_35 : decode zxm245.2.1 35 = .ok (.bipush 24, 2) := by decide +kernel
theorem zd245_37 : decode zxm245.2.1 37 = .ok (.iload_n 1, 1) := by decide +kernel
theorem zd245_38 : decode zxm245.2.1 38 = .ok (.iadd, 1) := by decide +kernel
theorem zd245_39 : decode zxm245.2.1 39 = .ok (.iaload, 1) := by decide +kernel
theorem zd245_40 : decode zxm245.2.1 40 = .ok (.iastore, 1) := by decide +kernel
theorem zd245_41 : decode zxm245.2.1 41 = .ok (.aload_n 0, 1) := by decide +kernel
theorem zd245_42 : decode zxm245.2.1 42 = .ok (.getfield 59, 3) := by decide +kernel
theorem zd245_45 : decode zxm245.2.1 45 = .ok (.iconst 5, 1) := by decide +kernel
theorem zd245_46 : decode zxm245.2.1 46 = .ok (.aload_n 0, 1) := by decide +kernel
theorem zd245_47 : decode zxm245.2.1 47 = .ok (.iload_n 1, 1) := by decide +kernel
theorem zd245_48 : decode zxm245.2.1 48 = .ok (.invokevirtual 281, 3) := by decide +kernel
theorem zd245_51 : decode zxm245.2.1 51 = .ok (.iastore, 1) := by decide +kernel
theorem zd245_52 : decode zxm245.2.1 52 = .ok (.return_, 1) := by decide +kernel
theorem zt_M_feelsStar {x1 : Int} {g0 : (Int → Int)} {g1 : (Int → Int)} {o : (Int → Int)} (h : zf_M_feelsStar x1 g0 g1 = some o) : zv_Fn z_TB z_cl z_KX zy_M_feelsStar zxm245 (1, 60) [.inr 0, .inl x1] [] [g0, g1] none [] [o, g1] := zv_meth (K := (z_KF13, z_KC13, z_KL13, z_KT13, [], [], [], none)) (FT := z_FT) (MT := z_MT) (n := 2) zxp245 (z_ks13 _ (fun _ h => List.mem_cons_of_mem _ h) _ _ _ _ (fun j r h _ => by cases h)) (fun _ _ => zs_KX_p) zyw_M_feelsStar (fun va F G h => by obtain ⟨rfl, _⟩ := h; rfl) (fun va F G h => by obtain ⟨rfl, _⟩ := h; rfl) rfl fun good va F G hB hret hvret hP => by
  obtain ⟨rfl, rfl, rfl⟩ := hP
  unfold zf_M_feelsStar at h
  refine zv_ald hB zd245_0 rfl rfl rfl ?_
  obtain ⟨r1, hr1, h⟩ := zi_bind h
  refine zv_cv hB (zv_emq (va2 := [.inr 0]) (F := []) (F' := []) (G := [g0, g1]) (G' := [r1, g1]) (ρ := [0, 1, 2]) (φ := []) (ψ := [0, 1]) [] [some 0, some 1] zyw_M_feels zyw_M_feelsStar zye_M_feelsStar (by decide +kernel) (zt_M_feels hr1) trivial ⟨rfl, rfl, trivial⟩ rfl rfl rfl rfl rfl rfl rfl) zd245_1 zxt246 rfl (by decide) (by decide) rfl ?_
  refine zv_ald hB zd245_4 rfl rfl rfl ?_
  refine zv_getr hB zd245_5 rfl ?_
  refine zv_con hB zd245_8 rfl ?_
  refine zv_ild hB zd245_9 rfl rfl ?_
  refine zv_iast hB zd245_10 rfl rfl (by decide) (by decide) ?_
  refine zv_ald hB zd245_11 rfl rfl rfl ?_
  refine zv_getr hB zd245_12 rfl ?_
  refine zv_con hB zd245_15 rfl ?_
  refine zv_ald hB zd245_16 rfl rfl rfl ?_
  refine zv_getr hB zd245_17 rfl ?_
  refine zv_con hB zd245_20 rfl ?_
  refine zv_ild hB zd245_22 rfl rfl ?_
  refine zv_addw hB zd245_23 ?_
  obtain ⟨c2, h⟩ := zi_if h
  refine zv_iald hB zd245_24 rfl rfl (zi_ix_ok c2).1 (zi_ix_ok c2).2 (fun _ _ => ?_)
  refine zv_iast hB zd245_25 rfl rfl (by decide) (by decide) ?_
  refine zv_ald hB zd245_26 rfl rfl rfl ?_
  refine zv_getr hB zd245_27 rfl ?_
  refine zv_con hB zd245_30 rfl ?_
  refine zv_ald hB zd245_31 rfl rfl rfl ?_
  refine zv_getr hB zd245_32 rfl ?_
  refine zv_con hB zd245_35 rfl ?_
  refine zv_ild hB zd245_37 rfl rfl ?_
  refine zv_addw hB zd245_38 ?_
  obtain ⟨c3, h⟩ := zi_if h
  refine zv_iald hB zd245_39 rfl rfl (zi_ix_ok c3).1 (zi_ix_ok c3).2 (fun _ _ => ?_)
  refine zv_iast hB zd245_40 rfl rfl (by decide) (by decide) ?_
  refine zv_ald hB zd245_41 rfl rfl rfl ?_
  refine zv_getr hB zd245_42 rfl ?_
  refine zv_con hB zd245_45 rfl ?_
  refine zv_ald hB zd245_46 rfl rfl rfl ?_
  refine zv_ild hB zd245_47 rfl rfl ?_
  obtain ⟨r4, hr4, h⟩ := zi_bind h
  refine zv_cv hB (zv_emq (va2 := [.inr 0, .inl x1]) (F := []) (F' := []) (G := [(zv_up (zv_up (zv_up r1 2 x1) 3 (g1 (zi_w (48 + x1)))) 4 (g1 (zi_w (24 + x1)))), g1]) (G' := [(zv_up (zv_up (zv_up r1 2 x1) 3 (g1 (zi_w (48 + x1)))) 4 (g1 (zi_w (24 + x1)))), g1]) (ρ := [0, 2]) (φ := []) (ψ := [1]) [] [none, some 0] zyw_M_standsAt zyw_M_feelsStar zye_M_feelsStar (by decide +kernel) (zt_M_standsAt hr4) trivial ⟨rfl, trivial⟩ rfl rfl rfl rfl rfl rfl rfl) zd245_48 zxt238 rfl (by decide) (by decide) rfl ?_
  refine zv_iast hB zd245_51 rfl rfl (by decide) (by decide) ?_
  have hw := Option.some.inj h
  subst hw
  exact hvret _ _ _ _ zd245_52 trivial ⟨rfl, rfl, rfl⟩
/-! M_way (IIII)I -/
-- names: 
-- fields: ; arrays: ; out: [('ret', None)]
abbrev zy_M_way : zNL := (0, [], [], [], [])
theorem zyw_M_way : zv_wf zy_M_way = true := by decide +kernel
theorem zye_M_way : zv_ek2 zy_M_way = true := by decide +kernel
def zf_M_way (x0 : Int) (x1 : Int) (x2 : Int) (x3 : Int) : Option (Int) := (zf_M_toRight x0 x2).bind fun r1 => ((zf_M_size r1).bind fun r2 => ((zf_M_size (zi_w (x1 - x3))).bind fun r3 => (some (zi_w (r2 + r3)))))
theorem zd247_0 : decode zxm247.2.1 0 = .ok (.iload_n 0, 1) := by decide +kernel
theorem zd247_1 : decode zxm247.2.1 1 = .ok (.iload_n 2, 1) := by decide +kernel
theorem zd247_2 : decode zxm247.2.1 2 = .ok (.invokestatic 142, 3) := by decide +kernel
theorem zd247_5 : decode zxm247.2.1 5 = .ok (.invokestatic 146, 3) := by decide +kernel
theorem zd247_8 : decode zxm247.2.1 8 = .ok (.iload_n 1, 1) := by decide +kernel
theorem zd247_9 : decode zxm247.2.1 9 = .ok (.iload_n 3, 1) := by decide +kernel
theorem zd247_10 : decode zxm247.2.1 10 = .ok (.isub, 1) := by decide +kernel
theorem zd247_11 : decode zxm247.2.1 11 = .ok (.invokestatic 146, 3) := by decide +kernel
theorem zd247_14 : decode zxm247.2.1 14 = .ok (.iadd, 1) := by decide +kernel
theorem zd247_15 : decode zxm247.2.1 15 = .ok (.ireturn, 1) := by decide +kernel
theorem zt_M_way {x0 : Int} {x1 : Int} {x2 : Int} {x3 : Int} {o : Int} (h : zf_M_way x0 x1 x2 x3 = some o) : zv_Fn z_TB z_cl z_KX zy_M_way zxm247 (1, 60) [.inl x0, .inl x1, .inl x2, .inl x3] [] [] (some o) [] [] := zv_meth (K := (z_KF13, z_KC13, z_KL13, z_KT13, [], [], [], none)) (FT := z_FT) (MT := z_MT) (n := 4) zxp247 (z_ks13 _ (fun _ h => List.mem_cons_of_mem _ h) _ _ _ _ (fun j r h _ => by cases h)) (fun _ _ => zs_KX_p) zyw_M_way (fun va F G h => by obtain ⟨rfl, _⟩ := h; rfl) (fun va F G h => by obtain ⟨rfl, _⟩ := h; rfl) rfl fun good va F G hB hret hvret hP => by
  obtain ⟨rfl, rfl, rfl⟩ := hP
  unfold zf_M_way at h
  refine zv_ild hB zd247_0 rfl rfl ?_
  refine zv_ild hB zd247_1 rfl rfl ?_
  obtain ⟨r1, hr1, h⟩ := zi_bind h
  refine zv_cs hB (zv_emq (va2 := [.inl x0, .inl x2]) (F := []) (F' := []) (G := []) (G' := []) (ρ := []) (φ := []) (ψ := []) [] [] zyw_M_toRight zyw_M_way zye_M_way (by decide +kernel) (zt_M_toRight hr1) trivial trivial rfl rfl rfl rfl rfl rfl rfl) zd247_2 zxt242 rfl (by decide) (by decide) rfl ?_
  obtain ⟨r2, hr2, h⟩ := zi_bind h
  refine zv_cs hB (zv_emq (va2 := [.inl r1]) (F := []) (F' := []) (G := []) (G' := []) (ρ := []) (φ := []) (ψ := []) [] [] zyw_M_size zyw_M_way zye_M_way (by decide +kernel) (zt_M_size hr2) trivial trivial rfl rfl rfl rfl rfl rfl rfl) zd247_5 zxt243 rfl (by decide) (by decide) rfl ?_
  refine zv_ild hB zd247_8 rfl rfl ?_
  refine zv_ild hB zd247_9 rfl rfl ?_
  refine zv_subw hB zd247_10 ?_
  obtain ⟨r3, hr3, h⟩ := zi_bind h
  refine zv_cs hB (zv_emq (va2 := [.inl (zi_w (x1 - x3))]) (F := []) (F' := []) (G := []) (G' := []) (ρ := []) (φ := []) (ψ := []) [] [] zyw_M_size zyw_M_way zye_M_way (by decide +kernel) (zt_M_size hr3) trivial trivial rfl rfl rfl rfl rfl rfl rfl) zd247_11 zxt243 rfl (by decide) (by decide) rfl ?_
  refine zv_addw hB zd247_14 ?_
  have hw := Option.some.inj h
  subst hw
  exact hret _ _ _ _ _ zd247_15 (by trivial) ⟨rfl, rfl, rfl⟩
/-! M_reckon (III)I -/
-- names: 
-- fields: ; arrays: ; out: [('ret', None)]
abbrev zy_M_reckon : zNL := (0, [], [], [], [])
theorem zyw_M_reckon : zv_wf zy_M_reckon = true := by decide +kernel
theorem zye_M_reckon : zv_ek2 zy_M_reckon = true := by decide +kernel
def zf_M_reckon (x0 : Int) (x1 : Int) (x2 : Int) : Option (Int) := if x0 = 2 then (some (zi_w (x1 + x2))) else (if x0 = 3 then (some (zi_w (x1 - x2))) else (if x0 = 4 then (some (zi_w (x1 * x2))) else (if x0 = 5 then (cond (zi_ne x2) (some (zi_div x1 x2)) none) else (if x0 = 6 then (cond (zi_ne x2) (some (zi_rem x1 x2)) none) else (if x0 = 7 then (if x1 < x2 then (some 1) else (some 0)) else (if x0 = 8 then (if x2 < x1 then (some 1) else (some 0)) else (if x1 = x2 then (some 1) else (some 0))))))))
theorem zd250_0 : decode zxm250.2.1 0 = .ok (.iload_n 0, 1) := by decide +kernel
theorem zd250_1 : decode zxm250.2.1 1 = .ok (.tableswitch 85 2 8 #[43, 47, 51, 55, 59, 63, 74], 43) := by decide +kernel
theorem zd250_44 : decode zxm250.2.1 44 = .ok (.iload_n 1, 1) := by decide +kernel
theorem zd250_45 : decode zxm250.2.1 45 = .ok (.iload_n 2, 1) := by decide +kernel
theorem zd250_46 : decode zxm250.2.1 46 = .ok (.iadd, 1) := by decide +kernel
theorem zd250_47 : decode zxm250.2.1 47 = .ok (.ireturn, 1) := by decide +kernel
theorem zd250_48 : decode zxm250.2.1 48 = .ok (.iload_n 1, 1) := by decide +kernel
theorem zd250_49 : decode zxm250.2.1 49 = .ok (.iload_n 2, 1) := by decide +kernel
theorem zd250_50 : decode zxm250.2.1 50 = .ok (.isub, 1) := by decide +kernel
theorem zd250_51 : decode zxm250.2.1 51 = .ok (.ireturn, 1) := by decide +kernel
theorem zd250_52 : decode zxm250.2.1 52 = .ok (.iload_n 1, 1) := by decide +kernel
theorem zd250_53 : decode zxm250.2.1 53 = .ok (.iload_n 2, 1) := by decide +kernel
theorem zd250_54 : decode zxm250.2.1 54 = .ok (.imul, 1) := by decide +kernel
theorem zd250_55 : decode zxm250.2.1 55 = .ok (.ireturn, 1) := by decide +kernel
theorem zd250_56 : decode zxm250.2.1 56 = .ok (.iload_n 1, 1) := by decide +kernel
theorem zd250_57 : decode zxm250.2.1 57 = .ok (.iload_n 2, 1) := by decide +kernel
theorem zd250_58 : decode zxm250.2.1 58 = .ok (.idiv, 1) := by decide +kernel
theorem zd250_59 : decode zxm250.2.1 59 = .ok (.ireturn, 1) := by decide +kernel
theorem zd250_60 : decode zxm250.2.1 60 = .ok (.iload_n 1, 1) := by decide +kernel
theorem zd250_61 : decode zxm250.2.1 61 = .ok (.iload_n 2, 1) := by decide +kernel
theorem zd250_62 : decode zxm250.2.1 62 = .ok (.irem, 1) := by decide +kernel
theorem zd250_63 : decode zxm250.2.1 63 = .ok (.ireturn, 1) := by decide +kernel
theorem zd250_64 : decode zxm250.2.1 64 = .ok (.iload_n 1, 1) := by decide +kernel
theorem zd250_65 : decode zxm250.2.1 65 = .ok (.iload_n 2, 1) := by decide +kernel
theorem zd250_66 : decode zxm250.2.1 66 = .ok (.if_icmp .ge 7, 3) := by decide +kernel
theorem zd250_69 : decode zxm250.2.1 69 = .ok (.iconst 1, 1) := by decide +kernel
theorem zd250_70 : decode zxm250.2.1 70 = .ok (.goto 4, 3) := by decide +kernel
theorem zd250_73 : decode zxm250.2.1 73 = .ok (.iconst 0, 1) := by decide +kernel
theorem zd250_74 : decode zxm250.2.1 74 = .ok (.ireturn, 1) := by decide +kernel
theorem zd250_75 : decode zxm250.2.1 75 = .ok (.iload_n 1, 1) := by decide +kernel
theorem zd250_76 : decode zxm250.2.1 76 = .ok (.iload_n 2, 1) := by decide +kernel
theorem zd250_77 : decode zxm250.2.1 77 = .ok (.if_icmp .le 7, 3) := by decide +kernel
theorem zd250_80 : decode zxm250.2.1 80 = .ok (.iconst 1, 1) := by decide +kernel
theorem zd250_81 : decode zxm250.2.1 81 = .ok (.goto 4, 3) := by decide +kernel
theorem zd250_84 : decode zxm250.2.1 84 = .ok (.iconst 0, 1) := by decide +kernel
theorem zd250_85 : decode zxm250.2.1 85 = .ok (.ireturn, 1) := by decide +kernel
theorem zd250_86 : decode zxm250.2.1 86 = .ok (.iload_n 1, 1) := by decide +kernel
theorem zd250_87 : decode zxm250.2.1 87 = .ok (.iload_n 2, 1) := by decide +kernel
theorem zd250_88 : decode zxm250.2.1 88 = .ok (.if_icmp .ne 7, 3) := by decide +kernel
theorem zd250_91 : decode zxm250.2.1 91 = .ok (.iconst 1, 1) := by decide +kernel
theorem zd250_92 : decode zxm250.2.1 92 = .ok (.goto 4, 3) := by decide +kernel
theorem zd250_95 : decode zxm250.2.1 95 = .ok (.iconst 0, 1) := by decide +kernel
theorem zd250_96 : decode zxm250.2.1 96 = .ok (.ireturn, 1) := by decide +kernel
theorem zt_M_reckon {x0 : Int} {x1 : Int} {x2 : Int} {o : Int} (h : zf_M_reckon x0 x1 x2 = some o) : zv_Fn z_TB z_cl z_KX zy_M_reckon zxm250 (0, 0) [.inl x0, .inl x1, .inl x2] [] [] (some o) [] [] := zv_meth (K := (z_KF13, z_KC13, z_KL13, z_KT13, [], [], [], none)) (FT := z_FT) (MT := z_MT) (n := 3) zxp250 (z_ks13 _ (fun _ h => List.mem_cons_of_mem _ h) _ _ _ _ (fun j r h _ => by cases h)) (fun _ _ => zs_KX_p) zyw_M_reckon (fun va F G h => by obtain ⟨rfl, _⟩ := h; rfl) (fun va F G h => by obtain ⟨rfl, _⟩ := h; rfl) rfl fun good va F G hB hret hvret hP => by
  obtain ⟨rfl, rfl, rfl⟩ := hP
  unfold zf_M_reckon at h
  refine zv_ild hB zd250_0 rfl rfl ?_
  refine zv_tsw hB zd250_1 rfl ?_
  refine ⟨fun hc1 => ⟨_, rfl, ?_⟩, fun hc1 => ?_⟩
  · replace hc1 : x0 = 2 := hc1
    rw [if_pos hc1] at h
    refine zv_ild hB zd250_44 rfl rfl ?_
    refine zv_ild hB zd250_45 rfl rfl ?_
    refine zv_addw hB zd250_46 ?_
    have hw := Option.some.inj h
    subst hw
    exact hret _ _ _ _ _ zd250_47 (by trivial) ⟨rfl, rfl, rfl⟩
  replace hc1 : x0 ≠ 2 := hc1
  rw [if_neg hc1] at h
  refine ⟨fun hc2 => ⟨_, rfl, ?_⟩, fun hc2 => ?_⟩
  · replace hc2 : x0 = 3 := hc2
    rw [if_pos hc2] at h
    refine zv_ild hB zd250_48 rfl rfl ?_
    refine zv_ild hB zd250_49 rfl rfl ?_
    refine zv_subw hB zd250_50 ?_
    have hw := Option.some.inj h
    subst hw
    exact hret _ _ _ _ _ zd250_51 (by trivial) ⟨rfl, rfl, rfl⟩
  replace hc2 : x0 ≠ 3 := hc2
  rw [if_neg hc2] at h
  refine ⟨fun hc3 => ⟨_, rfl, ?_⟩, fun hc3 => ?_⟩
  · replace hc3 : x0 = 4 := hc3
    rw [if_pos hc3] at h
    refine zv_ild hB zd250_52 rfl rfl ?_
    refine zv_ild hB zd250_53 rfl rfl ?_
    refine zv_mulw hB zd250_54 ?_
    have hw := Option.some.inj h
    subst hw
    exact hret _ _ _ _ _ zd250_55 (by trivial) ⟨rfl, rfl, rfl⟩
  replace hc3 : x0 ≠ 4 := hc3
  rw [if_neg hc3] at h
  refine ⟨fun hc4 => ⟨_, rfl, ?_⟩, fun hc4 => ?_⟩
  · replace hc4 : x0 = 5 := hc4
    rw [if_pos hc4] at h
    refine zv_ild hB zd250_56 rfl rfl ?_
    refine zv_ild hB zd250_57 rfl rfl ?_
    obtain ⟨c5, h⟩ := zi_if h
    refine zv_divw hB zd250_58 (zi_ne_ok c5) ?_
    have hw := Option.some.inj h
    subst hw
    exact hret _ _ _ _ _ zd250_59 (by trivial) ⟨rfl, rfl, rfl⟩
  replace hc4 : x0 ≠ 5 := hc4
  rw [if_neg hc4] at h
  refine ⟨fun hc6 => ⟨_, rfl, ?_⟩, fun hc6 => ?_⟩
  · replace hc6 : x0 = 6 := hc6
    rw [if_pos hc6] at h
    refine zv_ild hB zd250_60 rfl rfl ?_
    refine zv_ild hB zd250_61 rfl rfl ?_
    obtain ⟨c7, h⟩ := zi_if h
    refine zv_remw hB zd250_62 (zi_ne_ok c7) ?_
    have hw := Option.some.inj h
    subst hw
    exact hret _ _ _ _ _ zd250_63 (by trivial) ⟨rfl, rfl, rfl⟩
  replace hc6 : x0 ≠ 6 := hc6
  rw [if_neg hc6] at h
  refine ⟨fun hc8 => ⟨_, rfl, ?_⟩, fun hc8 => ?_⟩
  · replace hc8 : x0 = 7 := hc8
    rw [if_pos hc8] at h
    refine zv_ild hB zd250_64 rfl rfl ?_
    refine zv_ild hB zd250_65 rfl rfl ?_
    refine zv_cge hB zd250_66 rfl (fun hc9 => ?_) (fun hc9 => ?_)
    · rw [if_neg (Int.not_lt.mpr hc9)] at h
      refine zv_con hB zd250_73 rfl ?_
      have hw := Option.some.inj h
      subst hw
      exact hret _ _ _ _ _ zd250_74 (by trivial) ⟨rfl, rfl, rfl⟩
    · rw [if_pos hc9] at h
      refine zv_con hB zd250_69 rfl ?_
      refine zv_goto hB zd250_70 rfl ?_
      have hw := Option.some.inj h
      subst hw
      exact hret _ _ _ _ _ zd250_74 (by trivial) ⟨rfl, rfl, rfl⟩
  replace hc8 : x0 ≠ 7 := hc8
  rw [if_neg hc8] at h
  refine ⟨fun hc10 => ⟨_, rfl, ?_⟩, fun hc10 => ?_⟩
  · replace hc10 : x0 = 8 := hc10
    rw [if_pos hc10] at h
    refine zv_ild hB zd250_75 rfl rfl ?_
    refine zv_ild hB zd250_76 rfl rfl ?_
    refine zv_cle hB zd250_77 rfl (fun hc11 => ?_) (fun hc11 => ?_)
    · rw [if_neg (Int.not_lt.mpr hc11)] at h
      refine zv_con hB zd250_84 rfl ?_
      have hw := Option.some.inj h
      subst hw
      exact hret _ _ _ _ _ zd250_85 (by trivial) ⟨rfl, rfl, rfl⟩
    · rw [if_pos hc11] at h
      refine zv_con hB zd250_80 rfl ?_
      refine zv_goto hB zd250_81 rfl ?_
      have hw := Option.some.inj h
      subst hw
      exact hret _ _ _ _ _ zd250_85 (by trivial) ⟨rfl, rfl, rfl⟩
  replace hc10 : x0 ≠ 8 := hc10
  rw [if_neg hc10] at h
  refine ⟨_, rfl, ?_⟩
  refine zv_ild hB zd250_86 rfl rfl ?_
  refine zv_ild hB zd250_87 rfl rfl ?_
  refine zv_cne hB zd250_88 rfl (fun hc12 => ?_) (fun hc12 => ?_)
  · rw [if_neg hc12] at h
    refine zv_con hB zd250_95 rfl ?_
    have hw := Option.some.inj h
    subst hw
    exact hret _ _ _ _ _ zd250_96 (by trivial) ⟨rfl, rfl, rfl⟩
  · rw [if_pos hc12] at h
    refine zv_con hB zd250_91 rfl ?_
    refine zv_goto hB zd250_92 rfl ?_
    have hw := Option.some.inj h
    subst hw
    exact hret _ _ _ _ _ zd250_96 (by trivial) ⟨rfl, rfl, rfl⟩
/-! M_comesTo (II)I -/
-- names: 0 StarTalesModel('arg', 0), 1 (0, 220)(0, 12, 20), 2 (0, 220)(0, 12, 25), 3 (0, 13)(0, 12, 26)
-- fields: ; arrays: g0 = 1, g1 = 2, g2 = 3; out: [('ret', None), ('g', 1)]
abbrev zy_M_comesTo : zNL := (4, [(0, 12)], [], [(0, 12, 20, 1), (0, 12, 25, 2), (0, 12, 26, 3)], [(1, 0, 220, 0), (2, 0, 220, 1), (3, 0, 13, 2)])
theorem zyw_M_comesTo : zv_wf zy_M_comesTo = true := by decide +kernel
theorem zye_M_comesTo : zv_ek2 zy_M_comesTo = true := by decide +kernel
def zf_M_comesTo_l0_b (x2 : Int) (x4 : Int) (g0 : (Int → Int)) (g2 : (Int → Int)) (rec : Int → Int → (Int → Int) → Option ((((Int → Int)) ⊕ (Int × (Int → Int))))) (x3 : Int) (x5 : Int) (g1 : (Int → Int)) : Option ((((Int → Int)) ⊕ (Int × (Int → Int)))) := if x5 < x2 then (cond (zi_ix x5 220) (if (zi_div (g0 x5) 1048576) = 0 then (cond (zi_ix x3 220) (rec (zi_w (x3 + 1)) (zi_w (x5 + 1)) (zv_up g1 x3 (zi_rem (g0 x5) 1048576))) none) else (if (zi_div (g0 x5) 1048576) = 1 then (cond (zi_ix (zi_rem (g0 x5) 1048576) 13) (cond (zi_ix x3 220) (rec (zi_w (x3 + 1)) (zi_w (x5 + 1)) (zv_up g1 x3 (g2 (zi_rem (g0 x5) 1048576)))) none) none) else (if (zi_div (g0 x5) 1048576) = 10 then (cond (zi_ix (zi_w (x3 - 1)) 220) (rec x3 (zi_w (x5 + 1)) (zv_up g1 (zi_w (x3 - 1)) (zi_w (1 - (g1 (zi_w (x3 - 1))))))) none) else (if (zi_div (g0 x5) 1048576) = 11 then (cond (zi_ix (zi_w (x3 - 1)) 220) (if (g1 (zi_w (x3 - 1))) = 0 then (rec x3 (zi_w (x4 + (zi_rem (g0 x5) 1048576))) g1) else (rec (zi_w (x3 - 1)) (zi_w (x5 + 1)) g1)) none) else (if (zi_div (g0 x5) 1048576) = 12 then (cond (zi_ix (zi_w (x3 - 1)) 220) (if (g1 (zi_w (x3 - 1))) = 1 then (rec x3 (zi_w (x4 + (zi_rem (g0 x5) 1048576))) g1) else (rec (zi_w (x3 - 1)) (zi_w (x5 + 1)) g1)) none) else (if (zi_div (g0 x5) 1048576) = 5 then (cond (zi_ix (zi_w (x3 - 1)) 220) (if (g1 (zi_w (x3 - 1))) = 0 then (some (.inr (0, g1))) else (cond (zi_ix (zi_w ((zi_w (x3 - 1)) - 1)) 220) ((zf_M_reckon (zi_div (g0 x5) 1048576) (g1 (zi_w ((zi_w (x3 - 1)) - 1))) (g1 (zi_w (x3 - 1)))).bind fun r17 => (rec (zi_w (x3 - 1)) (zi_w (x5 + 1)) (zv_up g1 (zi_w ((zi_w (x3 - 1)) - 1)) r17))) none)) none) else (if (zi_div (g0 x5) 1048576) = 6 then (cond (zi_ix (zi_w (x3 - 1)) 220) (if (g1 (zi_w (x3 - 1))) = 0 then (some (.inr (0, g1))) else (cond (zi_ix (zi_w ((zi_w (x3 - 1)) - 1)) 220) ((zf_M_reckon (zi_div (g0 x5) 1048576) (g1 (zi_w ((zi_w (x3 - 1)) - 1))) (g1 (zi_w (x3 - 1)))).bind fun r25 => (rec (zi_w (x3 - 1)) (zi_w (x5 + 1)) (zv_up g1 (zi_w ((zi_w (x3 - 1)) - 1)) r25))) none)) none) else (cond (zi_ix (zi_w ((zi_w (x3 - 1)) - 1)) 220) (cond (zi_ix (zi_w (x3 - 1)) 220) ((zf_M_reckon (zi_div (g0 x5) 1048576) (g1 (zi_w ((zi_w (x3 - 1)) - 1))) (g1 (zi_w (x3 - 1)))).bind fun r21 => (rec (zi_w (x3 - 1)) (zi_w (x5 + 1)) (zv_up g1 (zi_w ((zi_w (x3 - 1)) - 1)) r21))) none) none)))))))) none) else (some (.inl g1))
def zf_M_comesTo_l0 (x2 : Int) (x4 : Int) (g0 : (Int → Int)) (g2 : (Int → Int)) : Nat → Int → Int → (Int → Int) → Option ((((Int → Int)) ⊕ (Int × (Int → Int))))
  | 0, _, _, _ => none
  | n + 1, x3, x5, g1 => zf_M_comesTo_l0_b x2 x4 g0 g2 (zf_M_comesTo_l0 x2 x4 g0 g2 n) x3 x5 g1
def zf_M_comesTo (x1 : Int) (x2 : Int) (g0 : (Int → Int)) (g1 : (Int → Int)) (g2 : (Int → Int)) : Option (Int × (Int → Int)) := (zf_M_comesTo_l0 x2 (zi_w (220 * (zi_div x1 220))) g0 g2 zi_fu 0 x1 g1).bind fun q33 => Sum.elim (fun e34 => (some ((e34 0), e34))) (fun w35 => some w35) q33
theorem zd249_0 : decode zxm249.2.1 0 = .ok (.iconst 0, 1) := by decide +kernel
theorem zd249_1 : decode zxm249.2.1 1 = .ok (.istore_n 3, 1) := by decide +kernel
theorem zd249_2 : decode zxm249.2.1 2 = .ok (.sipush 220, 3) := by decide +kernel
theorem zd249_5 : decode zxm249.2.1 5 = .ok (.iload_n 1, 1) := by decide +kernel
theorem zd249_6 : decode zxm249.2.1 6 = .ok (.sipush 220, 3) := by decide +kernel
theorem zd249_9 : decode zxm249.2.1 9 = .ok (.idiv, 1) := by decide +kernel
theorem zd249_10 : decode zxm249.2.1 10 = .ok (.imul, 1) := by decide +kernel
theorem zd249_11 : decode zxm249.2.1 11 = .ok (.istore 4, 2) := by decide +kernel
theorem zd249_13 : decode zxm249.2.1 13 = .ok (.iload_n 1, 1) := by decide +kernel
theorem zd249_14 : decode zxm249.2.1 14 = .ok (.istore 5, 2) := by decide +kernel
theorem zd249_16 : decode zxm249.2.1 16 = .ok (.iload 5, 2) := by decide +kernel
theorem zd249_18 : decode zxm249.2.1 18 = .ok (.iload_n 2, 1) := by decide +kernel
theorem zd249_19 : decode zxm249.2.1 19 = .ok (.if_icmp .ge 214, 3) := by decide +kernel
theorem zd249_22 : decode zxm249.2.1 22 = .ok (.aload_n 0, 1) := by decide +kernel
theorem zd249_23 : decode zxm249.2.1 23 = .ok (.getfield 41, 3) := by decide +kernel
theorem zd249_26 : decode zxm249.2.1 26 = .ok (.iload 5, 2) := by decide +kernel
theorem zd249_28 : decode zxm249.2.1 28 = .ok (.iaload, 1) := by decide +kernel
theorem zd249_29 : decode zxm249.2.1 29 = .ok (.ldc 202, 2) := by decide +kernel
theorem zd249_31 : decode zxm249.2.1 31 = .ok (.idiv, 1) := by decide +kernel
theorem zd249_32 : decode zxm249.2.1 32 = .ok (.istore 6, 2) := by decide +kernel
theorem zd249_34 : decode zxm249.2.1 34 = .ok (.aload_n 0, 1) := by decide +kernel
theorem zd249_35 : decode zxm249.2.1 35 = .ok (.getfield 41, 3) := by decide +kernel
theorem zd249_38 : decode zxm249.2.1 38 = .ok (.iload 5, 2) := by decide +kernel
theorem zd249_40 : decode zxm249.2.1 40 = .ok (.iaload, 1) := by decide +kernel
theorem zd249_41 : decode zxm249.2.1 41 = .ok (.ldc 202, 2) := by decide +kernel
theorem zd249_43 : decode zxm249.2.1 43 = .ok (.irem, 1) := by decide +kernel
theorem zd249_44 : decode zxm249.2.1 44 = .ok (.istore 7, 2) := by decide +kernel
theorem zd249_46 : decode zxm249.2.1 46 = .ok (.iload 5, 2) := by decide +kernel
theorem zd249_48 : decode zxm249.2.1 48 = .ok (.iconst 1, 1) := by decide +kernel
theorem zd249_49 : decode zxm249.2.1 49 = .ok (.iadd, 1) := by decide +kernel
theorem zd249_50 : decode zxm249.2.1 50 = .ok (.istore 5, 2) := by decide +kernel
theorem zd249_52 : decode zxm249.2.1 52 = .ok (.iload 6, 2) := by decide +kernel
theorem zd249_54 : decode zxm249.2.1 54 = .ok (.ifCond .eq 9, 3) := by decide +kernel
theorem zd249_57 : decode zxm249.2.1 57 = .ok (.iload 6, 2) := by decide +kernel
theorem zd249_59 : decode zxm249.2.1 59 = .ok (.iconst 1, 1) := by decide +kernel
theorem zd249_60 : decode zxm249.2.1 60 = .ok (.if_icmp .ne 33, 3) := by decide +kernel
theorem zd249_63 : decode zxm249.2.1 63 = .ok (.aload_n 0, 1) := by decide +kernel
theorem zd249_64 : decode zxm249.2.1 64 = .ok (.getfield 56, 3) := by decide +kernel
theorem zd249_67 : decode zxm249.2.1 67 = .ok (.iload_n 3, 1) := by decide +kernel
theorem zd249_68 : decode zxm249.2.1 68 = .ok (.iload 6, 2) := by decide +kernel
theorem zd249_70 : decode zxm249.2.1 70 = .ok (.ifCond .ne 8, 3) := by decide +kernel
theorem zd249_73 : decode zxm249.2.1 73 = .ok (.iload 7, 2) := by decide +kernel
theorem zd249_75 : decode zxm249.2.1 75 = .ok (.goto 10, 3) := by decide +kernel
theorem zd249_78 : decode zxm249.2.1 78 = .ok (.aload_n 0, 1) := by decide +kernel
theorem zd249_79 : decode zxm249.2.1 79 = .ok (.getfield 59, 3) := by decide +kernel
theorem zd249_82 : decode zxm249.2.1 82 = .ok (.iload 7, 2) := by decide +kernel
theorem zd249_84 : decode zxm249.2.1 84 = .ok (.iaload, 1) := by decide +kernel
theorem zd249_85 : decode zxm249.2.1 85 = .ok (.iastore, 1) := by decide +kernel
theorem zd249_86 : decode zxm249.2.1 86 = .ok (.iload_n 3, 1) := by decide +kernel
theorem zd249_87 : decode zxm249.2.1 87 = .ok (.iconst 1, 1) := by decide +kernel
theorem zd249_88 : decode zxm249.2.1 88 = .ok (.iadd, 1) := by decide +kernel
theorem zd249_89 : decode zxm249.2.1 89 = .ok (.istore_n 3, 1) := by decide +kernel
theorem zd249_90 : decode zxm249.2.1 90 = .ok (.goto 140, 3) := by decide +kernel
theorem zd249_93 : decode zxm249.2.1 93 = .ok (.iload 6, 2) := by decide +kernel
theorem zd249_95 : decode zxm249.2.1 95 = .ok (.bipush 10, 2) := by decide +kernel
theorem zd249_97 : decode zxm249.2.1 97 = .ok (.if_icmp .ne 24, 3) := by decide +kernel
theorem zd249_100 : decode zxm249.2.1 100 = .ok (.aload_n 0, 1) := by decide +kernel
theorem zd249_101 : decode zxm249.2.1 101 = .ok (.getfield 56, 3) := by decide +kernel
theorem zd249_104 : decode zxm249.2.1 104 = .ok (.iload_n 3, 1) := by decide +kernel
theorem zd249_105 : decode zxm249.2.1 105 = .ok (.iconst 1, 1) := by decide +kernel
theorem zd249_106 : decode zxm249.2.1 106 = .ok (.isub, 1) := by decide +kernel
theorem zd249_107 : decode zxm249.2.1 107 = .ok (.iconst 1, 1) := by decide +kernel
theorem zd249_108 : decode zxm249.2.1 108 = .ok (.aload_n 0, 1) := by decide +kernel
theorem zd249_109 : decode zxm249.2.1 109 = .ok (.getfield 56, 3) := by decide +kernel
theorem zd249_112 : decode zxm249.2.1 112 = .ok (.iload_n 3, 1) := by decide +kernel
theorem zd249_113 : decode zxm249.2.1 113 = .ok (.iconst 1, 1) := by decide +kernel
theorem zd249_114 : decode zxm249.2.1 114 = .ok (.isub, 1) := by decide +kernel
theorem zd249_115 : decode zxm249.2.1 115 = .ok (.iaload, 1) := by decide +kernel
theorem zd249_116 : decode zxm249.2.1 116 = .ok (.isub, 1) := by decide +kernel
theorem zd249_117 : decode zxm249.2.1 117 = .ok (.iastore, 1) := by decide +kernel
theorem zd249_118 : decode zxm249.2.1 118 = .ok (.goto 112, 3) := by decide +kernel
theorem zd249_121 : decode zxm249.2.1 121 = .ok (.iload 6, 2) := by decide +kernel
theorem zd249_123 : decode zxm249.2.1 123 = .ok (.bipush 11, 2) := by decide +kernel
theorem zd249_125 : decode zxm249.2.1 125 = .ok (.if_icmp .eq 10, 3) := by decide +kernel
theorem zd249_128 : decode zxm249.2.1 128 = .ok (.iload 6, 2) := by decide +kernel
theorem zd249_130 : decode zxm249.2.1 130 = .ok (.bipush 12, 2) := by decide +kernel
theorem zd249_132 : decode zxm249.2.1 132 = .ok (.if_icmp .ne 43, 3) := by decide +kernel
theorem zd249_135 : decode zxm249.2.1 135 = .ok (.aload_n 0, 1) := by decide +kernel
theorem zd249_136 : decode zxm249.2.1 136 = .ok (.getfield 56, 3) := by decide +kernel
theorem zd249_139 : decode zxm249.2.1 139 = .ok (.iload_n 3, 1) := by decide +kernel
theorem zd249_140 : decode zxm249.2.1 140 = .ok (.iconst 1, 1) := by decide +kernel
theorem zd249_141 : decode zxm249.2.1 141 = .ok (.isub, 1) := by decide +kernel
theorem zd249_142 : decode zxm249.2.1 142 = .ok (.iaload, 1) := by decide +kernel
theorem zd249_143 : decode zxm249.2.1 143 = .ok (.iload 6, 2) := by decide +kernel
theorem zd249_145 : decode zxm249.2.1 145 = .ok (.bipush 12, 2) := by decide +kernel
theorem zd249_147 : decode zxm249.2.1 147 = .ok (.if_icmp .ne 7, 3) := by decide +kernel
theorem zd249_150 : decode zxm249.2.1 150 = .ok (.iconst 1, 1) := by decide +kernel
theorem zd249_151 : decode zxm249.2.1 151 = .ok (.goto 4, 3) := by decide +kernel
theorem zd249_154 : decode zxm249.2.1 154 = .ok (.iconst 0, 1) := by decide +kernel
theorem zd249_155 : decode zxm249.2.1 155 = .ok (.if_icmp .ne 13, 3) := by decide +kernel
theorem zd249_158 : decode zxm249.2.1 158 = .ok (.iload 4, 2) := by decide +kernel
theorem zd249_160 : decode zxm249.2.1 160 = .ok (.iload 7, 2) := by decide +kernel
theorem zd249_162 : decode zxm249.2.1 162 = .ok (.iadd, 1) := by decide +kernel
theorem zd249_163 : decode zxm249.2.1 163 = .ok (.istore 5, 2) := by decide +kernel
theorem zd249_165 : decode zxm249.2.1 165 = .ok (.goto 65, 3) := by decide +kernel
theorem zd249_168 : decode zxm249.2.1 168 = .ok (.iload_n 3, 1) := by decide +kernel
theorem zd249_169 : decode zxm249.2.1 169 = .ok (.iconst 1, 1) := by decide +kernel
theorem zd249_170 : decode zxm249.2.1 170 = .ok (.isub, 1) := by decide +kernel
theorem zd249_171 : decode zxm249.2.1 171 = .ok (.istore_n 3, 1) := by decide +kernel
theorem zd249_172 : decode zxm249.2.1 172 = .ok (.goto 58, 3) := by decide +kernel
theorem zd249_175 : decode zxm249.2.1 175 = .ok (.iload_n 3, 1) := by decide +kernel
theorem zd249_176 : decode zxm249.2.1 176 = .ok (.iconst 1, 1) := by decide +kernel
theorem zd249_177 : decode zxm249.2.1 177 = .ok (.isub, 1) := by decide +kernel
theorem zd249_178 : decode zxm249.2.1 178 = .ok (.istore_n 3, 1) := by decide +kernel
theorem zd249_179 : decode zxm249.2.1 179 = .ok (.iload 6, 2) := by decide +kernel
theorem zd249_181 : decode zxm249.2.1 181 = .ok (.iconst 5, 1) := by decide +kernel
theorem zd249_182 : decode zxm249.2.1 182 = .ok (.if_icmp .eq 10, 3) := by decide +kernel
theorem zd249_185 : decode zxm249.2.1 185 = .ok (.iload 6, 2) := by decide +kernel
theorem zd249_187 : decode zxm249.2.1 187 = .ok (.bipush 6, 2) := by decide +kernel
theorem zd249_189 : decode zxm249.2.1 189 = .ok (.if_icmp .ne 14, 3) := by decide +kernel
theorem zd249_192 : decode zxm249.2.1 192 = .ok (.aload_n 0, 1) := by decide +kernel
theorem zd249_193 : decode zxm249.2.1 193 = .ok (.getfield 56, 3) := by decide +kernel
theorem zd249_196 : decode zxm249.2.1 196 = .ok (.iload_n 3, 1) := by decide +kernel
theorem zd249_197 : decode zxm249.2.1 197 = .ok (.iaload, 1) := by decide +kernel
theorem zd249_198 : decode zxm249.2.1 198 = .ok (.ifCond .ne 5, 3) := by decide +kernel
theorem zd249_201 : decode zxm249.2.1 201 = .ok (.iconst 0, 1) := by decide +kernel
theorem zd249_202 : decode zxm249.2.1 202 = .ok (.ireturn, 1) := by decide +kernel
theorem zd249_203 : decode zxm249.2.1 203 = .ok (.aload_n 0, 1) := by decide +kernel
theorem zd249_204 : decode zxm249.2.1 204 = .ok (.getfield 56, 3) := by decide +kernel
theorem zd249_207 : decode zxm249.2.1 207 = .ok (.iload_n 3, 1) := by decide +kernel
theorem zd249_208 : decode zxm249.2.1 208 = .ok (.iconst 1, 1) := by decide +kernel
theorem zd249_209 : decode zxm249.2.1 209 = .ok (.isub, 1) := by decide +kernel
theorem zd249_210 : decode zxm249.2.1 210 = .ok (.iload 6, 2) := by decide +kernel
theorem zd249_212 : decode zxm249.2.1 212 = .ok (.aload_n 0, 1) := by decide +kernel
theorem zd249_213 : decode zxm249.2.1 213 = .ok (.getfield 56, 3) := by decide +kernel
theorem zd249_216 : decode zxm249.2.1 216 = .ok (.iload_n 3, 1) := by decide +kernel
theorem zd249_217 : decode zxm249.2.1 217 = .ok (.iconst 1, 1) := by decide +kernel
theorem zd249_218 : decode zxm249.2.1 218 = .ok (.isub, 1) := by decide +kernel
theorem zd249_219 : decode zxm249.2.1 219 = .ok (.iaload, 1) := by decide +kernel
theorem zd249_220 : decode zxm249.2.1 220 = .ok (.aload_n 0, 1) := by decide +kernel
theorem zd249_221 : decode zxm249.2.1 221 = .ok (.getfield 56, 3) := by decide +kernel
theorem zd249_224 : decode zxm249.2.1 224 = .ok (.iload_n 3, 1) := by decide +kernel
theorem zd249_225 : decode zxm249.2.1 225 = .ok (.iaload, 1) := by decide +kernel
theorem zd249_226 : decode zxm249.2.1 226 = .ok (.invokestatic 271, 3) := by decide +kernel
theorem zd249_229 : decode zxm249.2.1 229 = .ok (.iastore, 1) := by decide +kernel
theorem zd249_230 : decode zxm249.2.1 230 = .ok (.goto (-214), 3) := by decide +kernel
theorem zd249_233 : decode zxm249.2.1 233 = .ok (.aload_n 0, 1) := by decide +kernel
theorem zd249_234 : decode zxm249.2.1 234 = .ok (.getfield 56, 3) := by decide +kernel
theorem zd249_237 : decode zxm249.2.1 237 = .ok (.iconst 0, 1) := by decide +kernel
theorem zd249_238 : decode zxm249.2.1 238 = .ok (.iaload, 1) := by decide +kernel
theorem zd249_239 : decode zxm249.2.1 239 = .ok (.ireturn, 1) := by decide +kernel
theorem zt_M_comesTo {x1 : Int} {x2 : Int} {g0 : (Int → Int)} {g1 : (Int → Int)} {g2 : (Int → Int)} {o : Int × (Int → Int)} (h : zf_M_comesTo x1 x2 g0 g1 g2 = some o) : zv_Fn z_TB z_cl z_KX zy_M_comesTo zxm249 (1, 60) [.inr 0, .inl x1, .inl x2] [] [g0, g1, g2] (some o.1) [] [g0, o.2, g2] := zv_meth (K := (z_KF13, z_KC13, z_KL13, z_KT13, [], [], [], none)) (FT := z_FT) (MT := z_MT) (n := 3) zxp249 (z_ks13 _ (fun _ h => List.mem_cons_of_mem _ h) _ _ _ _ (fun j r h _ => by cases h)) (fun _ _ => zs_KX_p) zyw_M_comesTo (fun va F G h => by obtain ⟨rfl, _⟩ := h; rfl) (fun va F G h => by obtain ⟨rfl, _⟩ := h; rfl) rfl fun good va F G hB hret hvret hP => by
  obtain ⟨rfl, rfl, rfl⟩ := hP
  have l0 : ∀ (n : Nat) (x2 : Int) (x3 : Int) (x4 : Int) (x5 : Int) (g1 : (Int → Int)) (q : (((Int → Int)) ⊕ (Int × (Int → Int)))), zf_M_comesTo_l0 x2 x4 g0 g2 n x3 x5 g1 = some q → (Sum.elim (fun e : (Int → Int) => good 233 [.inr 0, .inr 1000, .inr 1000, .inr 1000, .inr 1000, .inr 1000, .inr 1000, .inr 1000] [] [] [g0, e, g2]) (fun w : Int × (Int → Int) => w = o) q) → good 16 [.inr 0, .inr 1000, .inl x2, .inl x3, .inl x4, .inl x5, .inr 1000, .inr 1000] [] [] [g0, g1, g2] := by
    intro n
    induction n with
    | zero => intro x2 x3 x4 x5 g1 q h; exact absurd (show none = some q from h) (fun h => by cases h)
    | succ n ih =>
      intro x2 x3 x4 x5 g1 q h hK
      replace h : zf_M_comesTo_l0_b x2 x4 g0 g2 (zf_M_comesTo_l0 x2 x4 g0 g2 n) x3 x5 g1 = some q := h
      unfold zf_M_comesTo_l0_b at h
      refine zv_ild hB zd249_16 rfl rfl ?_
      refine zv_ild hB zd249_18 rfl rfl ?_
      refine zv_cge hB zd249_19 rfl (fun hc1 => ?_) (fun hc1 => ?_)
      · rw [if_neg (Int.not_lt.mpr hc1)] at h
        have hq := Option.some.inj h
        subst hq
        refine zv_wk hB (L' := [.inr 0, .inr 1000, .inr 1000, .inr 1000, .inr 1000, .inr 1000, .inr 1000, .inr 1000]) (F' := []) ⟨fun _ => rfl, fun (h : zv_is (.inr 1000)) => (Nat.lt_irrefl 1000 h).elim, fun (h : zv_is (.inr 1000)) => (Nat.lt_irrefl 1000 h).elim, fun (h : zv_is (.inr 1000)) => (Nat.lt_irrefl 1000 h).elim, fun (h : zv_is (.inr 1000)) => (Nat.lt_irrefl 1000 h).elim, fun (h : zv_is (.inr 1000)) => (Nat.lt_irrefl 1000 h).elim, fun (h : zv_is (.inr 1000)) => (Nat.lt_irrefl 1000 h).elim, fun (h : zv_is (.inr 1000)) => (Nat.lt_irrefl 1000 h).elim, trivial⟩ trivial ?_
        exact hK
      · rw [if_pos hc1] at h
        refine zv_ald hB zd249_22 rfl rfl rfl ?_
        refine zv_getr hB zd249_23 rfl ?_
        refine zv_ild hB zd249_26 rfl rfl ?_
        obtain ⟨c2, h⟩ := zi_if h
        refine zv_iald hB zd249_28 rfl rfl (zi_ix_ok c2).1 (zi_ix_ok c2).2 (fun _ _ => ?_)
        refine zv_con (n := 1048576) hB zd249_29 (by decide +kernel) ?_
        refine zv_divw hB zd249_31 (by decide) ?_
        refine zv_ist hB zd249_32 rfl rfl rfl ?_
        refine zv_ald hB zd249_34 rfl rfl rfl ?_
        refine zv_getr hB zd249_35 rfl ?_
        refine zv_ild hB zd249_38 rfl rfl ?_
        refine zv_iald hB zd249_40 rfl rfl (zi_ix_ok c2).1 (zi_ix_ok c2).2 (fun _ _ => ?_)
        refine zv_con (n := 1048576) hB zd249_41 (by decide +kernel) ?_
        refine zv_remw hB zd249_43 (by decide) ?_
        refine zv_ist hB zd249_44 rfl rfl rfl ?_
        refine zv_ild hB zd249_46 rfl rfl ?_
        refine zv_con hB zd249_48 rfl ?_
        refine zv_addw hB zd249_49 ?_
        refine zv_ist hB zd249_50 rfl rfl rfl ?_
        refine zv_ild hB zd249_52 rfl rfl ?_
        refine zv_zeq hB zd249_54 rfl (fun hc3 => ?_) (fun hc3 => ?_)
        · rw [if_pos hc3] at h
          refine zv_ald hB zd249_63 rfl rfl rfl ?_
          refine zv_getr hB zd249_64 rfl ?_
          refine zv_ild hB zd249_67 rfl rfl ?_
          refine zv_ild hB zd249_68 rfl rfl ?_
          refine zv_zne hB zd249_70 rfl (fun hc => absurd hc (by omega)) (fun _ => ?_)
          refine zv_ild hB zd249_73 rfl rfl ?_
          refine zv_goto hB zd249_75 rfl ?_
          obtain ⟨c5, h⟩ := zi_if h
          refine zv_iast hB zd249_85 rfl rfl (zi_ix_ok c5).1 (zi_ix_ok c5).2 ?_
          refine zv_ild hB zd249_86 rfl rfl ?_
          refine zv_con hB zd249_87 rfl ?_
          refine zv_addw hB zd249_88 ?_
          refine zv_ist hB zd249_89 rfl rfl rfl ?_
          refine zv_goto hB zd249_90 rfl ?_
          refine zv_goto hB zd249_230 rfl ?_
          refine zv_wk hB (L' := [.inr 0, .inr 1000, .inl x2, .inl (zi_w (x3 + 1)), .inl x4, .inl (zi_w (x5 + 1)), .inr 1000, .inr 1000]) (F' := []) ⟨fun _ => rfl, fun (h : zv_is (.inr 1000)) => (Nat.lt_irrefl 1000 h).elim, fun _ => rfl, fun _ => rfl, fun _ => rfl, fun _ => rfl, fun (h : zv_is (.inr 1000)) => (Nat.lt_irrefl 1000 h).elim, fun (h : zv_is (.inr 1000)) => (Nat.lt_irrefl 1000 h).elim, trivial⟩ trivial ?_
          exact ih _ _ _ _ _ q h hK
        · rw [if_neg hc3] at h
          refine zv_ild hB zd249_57 rfl rfl ?_
          refine zv_con hB zd249_59 rfl ?_
          refine zv_cne hB zd249_60 rfl (fun hc6 => ?_) (fun hc6 => ?_)
          · rw [if_neg hc6] at h
            refine zv_ild hB zd249_93 rfl rfl ?_
            refine zv_con hB zd249_95 rfl ?_
            refine zv_cne hB zd249_97 rfl (fun hc7 => ?_) (fun hc7 => ?_)
            · rw [if_neg hc7] at h
              refine zv_ild hB zd249_121 rfl rfl ?_
              refine zv_con hB zd249_123 rfl ?_
              refine zv_ceq hB zd249_125 rfl (fun hc8 => ?_) (fun hc8 => ?_)
              · rw [if_pos hc8] at h
                refine zv_ald hB zd249_135 rfl rfl rfl ?_
                refine zv_getr hB zd249_136 rfl ?_
                refine zv_ild hB zd249_139 rfl rfl ?_
                refine zv_con hB zd249_140 rfl ?_
                refine zv_subw hB zd249_141 ?_
                obtain ⟨c9, h⟩ := zi_if h
                refine zv_iald hB zd249_142 rfl rfl (zi_ix_ok c9).1 (zi_ix_ok c9).2 (fun _ _ => ?_)
                refine zv_ild hB zd249_143 rfl rfl ?_
                refine zv_con hB zd249_145 rfl ?_
                refine zv_cne hB zd249_147 rfl (fun _ => ?_) (fun hc => absurd hc (by omega))
                refine zv_con hB zd249_154 rfl ?_
                refine zv_cne hB zd249_155 rfl (fun hc11 => ?_) (fun hc11 => ?_)
                · rw [if_neg hc11] at h
                  refine zv_ild hB zd249_168 rfl rfl ?_
                  refine zv_con hB zd249_169 rfl ?_
                  refine zv_subw hB zd249_170 ?_
                  refine zv_ist hB zd249_171 rfl rfl rfl ?_
                  refine zv_goto hB zd249_172 rfl ?_
                  refine zv_goto hB zd249_230 rfl ?_
                  refine zv_wk hB (L' := [.inr 0, .inr 1000, .inl x2, .inl (zi_w (x3 - 1)), .inl x4, .inl (zi_w (x5 + 1)), .inr 1000, .inr 1000]) (F' := []) ⟨fun _ => rfl, fun (h : zv_is (.inr 1000)) => (Nat.lt_irrefl 1000 h).elim, fun _ => rfl, fun _ => rfl, fun _ => rfl, fun _ => rfl, fun (h : zv_is (.inr 1000)) => (Nat.lt_irrefl 1000 h).elim, fun (h : zv_is (.inr 1000)) => (Nat.lt_irrefl 1000 h).elim, trivial⟩ trivial ?_
                  exact ih _ _ _ _ _ q h hK
                · rw [if_pos hc11] at h
                  refine zv_ild hB zd249_158 rfl rfl ?_
                  refine zv_ild hB zd249_160 rfl rfl ?_
                  refine zv_addw hB zd249_162 ?_
                  refine zv_ist hB zd249_163 rfl rfl rfl ?_
                  refine zv_goto hB zd249_165 rfl ?_
                  refine zv_goto hB zd249_230 rfl ?_
                  refine zv_wk hB (L' := [.inr 0, .inr 1000, .inl x2, .inl x3, .inl x4, .inl (zi_w (x4 + (zi_rem (g0 x5) 1048576))), .inr 1000, .inr 1000]) (F' := []) ⟨fun _ => rfl, fun (h : zv_is (.inr 1000)) => (Nat.lt_irrefl 1000 h).elim, fun _ => rfl, fun _ => rfl, fun _ => rfl, fun _ => rfl, fun (h : zv_is (.inr 1000)) => (Nat.lt_irrefl 1000 h).elim, fun (h : zv_is (.inr 1000)) => (Nat.lt_irrefl 1000 h).elim, trivial⟩ trivial ?_
                  exact ih _ _ _ _ _ q h hK
              · rw [if_neg hc8] at h
                refine zv_ild hB zd249_128 rfl rfl ?_
                refine zv_con hB zd249_130 rfl ?_
                refine zv_cne hB zd249_132 rfl (fun hc12 => ?_) (fun hc12 => ?_)
                · rw [if_neg hc12] at h
                  refine zv_ild hB zd249_175 rfl rfl ?_
                  refine zv_con hB zd249_176 rfl ?_
                  refine zv_subw hB zd249_177 ?_
                  refine zv_ist hB zd249_178 rfl rfl rfl ?_
                  refine zv_ild hB zd249_179 rfl rfl ?_
                  refine zv_con hB zd249_181 rfl ?_
                  refine zv_ceq hB zd249_182 rfl (fun hc13 => ?_) (fun hc13 => ?_)
                  · rw [if_pos hc13] at h
                    refine zv_ald hB zd249_192 rfl rfl rfl ?_
                    refine zv_getr hB zd249_193 rfl ?_
                    refine zv_ild hB zd249_196 rfl rfl ?_
                    obtain ⟨c14, h⟩ := zi_if h
                    refine zv_iald hB zd249_197 rfl rfl (zi_ix_ok c14).1 (zi_ix_ok c14).2 (fun _ _ => ?_)
                    refine zv_zne hB zd249_198 rfl (fun hc15 => ?_) (fun hc15 => ?_)
                    · rw [if_neg hc15] at h
                      refine zv_ald hB zd249_203 rfl rfl rfl ?_
                      refine zv_getr hB zd249_204 rfl ?_
                      refine zv_ild hB zd249_207 rfl rfl ?_
                      refine zv_con hB zd249_208 rfl ?_
                      refine zv_subw hB zd249_209 ?_
                      refine zv_ild hB zd249_210 rfl rfl ?_
                      refine zv_ald hB zd249_212 rfl rfl rfl ?_
                      refine zv_getr hB zd249_213 rfl ?_
                      refine zv_ild hB zd249_216 rfl rfl ?_
                      refine zv_con hB zd249_217 rfl ?_
                      refine zv_subw hB zd249_218 ?_
                      obtain ⟨c16, h⟩ := zi_if h
                      refine zv_iald hB zd249_219 rfl rfl (zi_ix_ok c16).1 (zi_ix_ok c16).2 (fun _ _ => ?_)
                      refine zv_ald hB zd249_220 rfl rfl rfl ?_
                      refine zv_getr hB zd249_221 rfl ?_
                      refine zv_ild hB zd249_224 rfl rfl ?_
                      refine zv_iald hB zd249_225 rfl rfl (zi_ix_ok c14).1 (zi_ix_ok c14).2 (fun _ _ => ?_)
                      obtain ⟨r17, hr17, h⟩ := zi_bind h
                      refine zv_cs hB (zv_emq (va2 := [.inl (zi_div (g0 x5) 1048576), .inl (g1 (zi_w ((zi_w (x3 - 1)) - 1))), .inl (g1 (zi_w (x3 - 1)))]) (F := []) (F' := []) (G := [g0, g1, g2]) (G' := [g0, g1, g2]) (ρ := []) (φ := []) (ψ := []) [] [none, none, none] zyw_M_reckon zyw_M_comesTo zye_M_comesTo (by decide +kernel) (zt_M_reckon hr17) trivial trivial rfl rfl rfl rfl rfl rfl rfl) zd249_226 zxt250 rfl (by decide) (by decide) rfl ?_
                      refine zv_iast hB zd249_229 rfl rfl (zi_ix_ok c16).1 (zi_ix_ok c16).2 ?_
                      refine zv_goto hB zd249_230 rfl ?_
                      refine zv_wk hB (L' := [.inr 0, .inr 1000, .inl x2, .inl (zi_w (x3 - 1)), .inl x4, .inl (zi_w (x5 + 1)), .inr 1000, .inr 1000]) (F' := []) ⟨fun _ => rfl, fun (h : zv_is (.inr 1000)) => (Nat.lt_irrefl 1000 h).elim, fun _ => rfl, fun _ => rfl, fun _ => rfl, fun _ => rfl, fun (h : zv_is (.inr 1000)) => (Nat.lt_irrefl 1000 h).elim, fun (h : zv_is (.inr 1000)) => (Nat.lt_irrefl 1000 h).elim, trivial⟩ trivial ?_
                      exact ih _ _ _ _ _ q h hK
                    · rw [if_pos hc15] at h
                      refine zv_con hB zd249_201 rfl ?_
                      have hw : (0, g1) = o := zi_rk (Option.some.inj h) hK
                      subst hw
                      exact hret _ _ _ _ _ zd249_202 (by trivial) ⟨rfl, rfl, rfl⟩
                  · rw [if_neg hc13] at h
                    refine zv_ild hB zd249_185 rfl rfl ?_
                    refine zv_con hB zd249_187 rfl ?_
                    refine zv_cne hB zd249_189 rfl (fun hc18 => ?_) (fun hc18 => ?_)
                    · rw [if_neg hc18] at h
                      refine zv_ald hB zd249_203 rfl rfl rfl ?_
                      refine zv_getr hB zd249_204 rfl ?_
                      refine zv_ild hB zd249_207 rfl rfl ?_
                      refine zv_con hB zd249_208 rfl ?_
                      refine zv_subw hB zd249_209 ?_
                      refine zv_ild hB zd249_210 rfl rfl ?_
                      refine zv_ald hB zd249_212 rfl rfl rfl ?_
                      refine zv_getr hB zd249_213 rfl ?_
                      refine zv_ild hB zd249_216 rfl rfl ?_
                      refine zv_con hB zd249_217 rfl ?_
                      refine zv_subw hB zd249_218 ?_
                      obtain ⟨c19, h⟩ := zi_if h
                      refine zv_iald hB zd249_219 rfl rfl (zi_ix_ok c19).1 (zi_ix_ok c19).2 (fun _ _ => ?_)
                      refine zv_ald hB zd249_220 rfl rfl rfl ?_
                      refine zv_getr hB zd249_221 rfl ?_
                      refine zv_ild hB zd249_224 rfl rfl ?_
                      obtain ⟨c20, h⟩ := zi_if h
                      refine zv_iald hB zd249_225 rfl rfl (zi_ix_ok c20).1 (zi_ix_ok c20).2 (fun _ _ => ?_)
                      obtain ⟨r21, hr21, h⟩ := zi_bind h
                      refine zv_cs hB (zv_emq (va2 := [.inl (zi_div (g0 x5) 1048576), .inl (g1 (zi_w ((zi_w (x3 - 1)) - 1))), .inl (g1 (zi_w (x3 - 1)))]) (F := []) (F' := []) (G := [g0, g1, g2]) (G' := [g0, g1, g2]) (ρ := []) (φ := []) (ψ := []) [] [none, none, none] zyw_M_reckon zyw_M_comesTo zye_M_comesTo (by decide +kernel) (zt_M_reckon hr21) trivial trivial rfl rfl rfl rfl rfl rfl rfl) zd249_226 zxt250 rfl (by decide) (by decide) rfl ?_
                      refine zv_iast hB zd249_229 rfl rfl (zi_ix_ok c19).1 (zi_ix_ok c19).2 ?_
                      refine zv_goto hB zd249_230 rfl ?_
                      refine zv_wk hB (L' := [.inr 0, .inr 1000, .inl x2, .inl (zi_w (x3 - 1)), .inl x4, .inl (zi_w (x5 + 1)), .inr 1000, .inr 1000]) (F' := []) ⟨fun _ => rfl, fun (h : zv_is (.inr 1000)) => (Nat.lt_irrefl 1000 h).elim, fun _ => rfl, fun _ => rfl, fun _ => rfl, fun _ => rfl, fun (h : zv_is (.inr 1000)) => (Nat.lt_irrefl 1000 h).elim, fun (h : zv_is (.inr 1000)) => (Nat.lt_irrefl 1000 h).elim, trivial⟩ trivial ?_
                      exact ih _ _ _ _ _ q h hK
                    · rw [if_pos hc18] at h
                      refine zv_ald hB zd249_192 rfl rfl rfl ?_
                      refine zv_getr hB zd249_193 rfl ?_
                      refine zv_ild hB zd249_196 rfl rfl ?_
                      obtain ⟨c22, h⟩ := zi_if h
                      refine zv_iald hB zd249_197 rfl rfl (zi_ix_ok c22).1 (zi_ix_ok c22).2 (fun _ _ => ?_)
                      refine zv_zne hB zd249_198 rfl (fun hc23 => ?_) (fun hc23 => ?_)
                      · rw [if_neg hc23] at h
                        refine zv_ald hB zd249_203 rfl rfl rfl ?_
                        refine zv_getr hB zd249_204 rfl ?_
                        refine zv_ild hB zd249_207 rfl rfl ?_
                        refine zv_con hB zd249_208 rfl ?_
                        refine zv_subw hB zd249_209 ?_
                        refine zv_ild hB zd249_210 rfl rfl ?_
                        refine zv_ald hB zd249_212 rfl rfl rfl ?_
                        refine zv_getr hB zd249_213 rfl ?_
                        refine zv_ild hB zd249_216 rfl rfl ?_
                        refine zv_con hB zd249_217 rfl ?_
                        refine zv_subw hB zd249_218 ?_
                        obtain ⟨c24, h⟩ := zi_if h
                        refine zv_iald hB zd249_219 rfl rfl (zi_ix_ok c24).1 (zi_ix_ok c24).2 (fun _ _ => ?_)
                        refine zv_ald hB zd249_220 rfl rfl rfl ?_
                        refine zv_getr hB zd249_221 rfl ?_
                        refine zv_ild hB zd249_224 rfl rfl ?_
                        refine zv_iald hB zd249_225 rfl rfl (zi_ix_ok c22).1 (zi_ix_ok c22).2 (fun _ _ => ?_)
                        obtain ⟨r25, hr25, h⟩ := zi_bind h
                        refine zv_cs hB (zv_emq (va2 := [.inl (zi_div (g0 x5) 1048576), .inl (g1 (zi_w ((zi_w (x3 - 1)) - 1))), .inl (g1 (zi_w (x3 - 1)))]) (F := []) (F' := []) (G := [g0, g1, g2]) (G' := [g0, g1, g2]) (ρ := []) (φ := []) (ψ := []) [] [none, none, none] zyw_M_reckon zyw_M_comesTo zye_M_comesTo (by decide +kernel) (zt_M_reckon hr25) trivial trivial rfl rfl rfl rfl rfl rfl rfl) zd249_226 zxt250 rfl (by decide) (by decide) rfl ?_
                        refine zv_iast hB zd249_229 rfl rfl (zi_ix_ok c24).1 (zi_ix_ok c24).2 ?_
                        refine zv_goto hB zd249_230 rfl ?_
                        refine zv_wk hB (L' := [.inr 0, .inr 1000, .inl x2, .inl (zi_w (x3 - 1)), .inl x4, .inl (zi_w (x5 + 1)), .inr 1000, .inr 1000]) (F' := []) ⟨fun _ => rfl, fun (h : zv_is (.inr 1000)) => (Nat.lt_irrefl 1000 h).elim, fun _ => rfl, fun _ => rfl, fun _ => rfl, fun _ => rfl, fun (h : zv_is (.inr 1000)) => (Nat.lt_irrefl 1000 h).elim, fun (h : zv_is (.inr 1000)) => (Nat.lt_irrefl 1000 h).elim, trivial⟩ trivial ?_
                        exact ih _ _ _ _ _ q h hK
                      · rw [if_pos hc23] at h
                        refine zv_con hB zd249_201 rfl ?_
                        have hw : (0, g1) = o := zi_rk (Option.some.inj h) hK
                        subst hw
                        exact hret _ _ _ _ _ zd249_202 (by trivial) ⟨rfl, rfl, rfl⟩
                · rw [if_pos hc12] at h
                  refine zv_ald hB zd249_135 rfl rfl rfl ?_
                  refine zv_getr hB zd249_136 rfl ?_
                  refine zv_ild hB zd249_139 rfl rfl ?_
                  refine zv_con hB zd249_140 rfl ?_
                  refine zv_subw hB zd249_141 ?_
                  obtain ⟨c26, h⟩ := zi_if h
                  refine zv_iald hB zd249_142 rfl rfl (zi_ix_ok c26).1 (zi_ix_ok c26).2 (fun _ _ => ?_)
                  refine zv_ild hB zd249_143 rfl rfl ?_
                  refine zv_con hB zd249_145 rfl ?_
                  refine zv_cne hB zd249_147 rfl (fun hc => absurd hc (by omega)) (fun _ => ?_)
                  refine zv_con hB zd249_150 rfl ?_
                  refine zv_goto hB zd249_151 rfl ?_
                  refine zv_cne hB zd249_155 rfl (fun hc28 => ?_) (fun hc28 => ?_)
                  · rw [if_neg hc28] at h
                    refine zv_ild hB zd249_168 rfl rfl ?_
                    refine zv_con hB zd249_169 rfl ?_
                    refine zv_subw hB zd249_170 ?_
                    refine zv_ist hB zd249_171 rfl rfl rfl ?_
                    refine zv_goto hB zd249_172 rfl ?_
                    refine zv_goto hB zd249_230 rfl ?_
                    refine zv_wk hB (L' := [.inr 0, .inr 1000, .inl x2, .inl (zi_w (x3 - 1)), .inl x4, .inl (zi_w (x5 + 1)), .inr 1000, .inr 1000]) (F' := []) ⟨fun _ => rfl, fun (h : zv_is (.inr 1000)) => (Nat.lt_irrefl 1000 h).elim, fun _ => rfl, fun _ => rfl, fun _ => rfl, fun _ => rfl, fun (h : zv_is (.inr 1000)) => (Nat.lt_irrefl 1000 h).elim, fun (h : zv_is (.inr 1000)) => (Nat.lt_irrefl 1000 h).elim, trivial⟩ trivial ?_
                    exact ih _ _ _ _ _ q h hK
                  · rw [if_pos hc28] at h
                    refine zv_ild hB zd249_158 rfl rfl ?_
                    refine zv_ild hB zd249_160 rfl rfl ?_
                    refine zv_addw hB zd249_162 ?_
                    refine zv_ist hB zd249_163 rfl rfl rfl ?_
                    refine zv_goto hB zd249_165 rfl ?_
                    refine zv_goto hB zd249_230 rfl ?_
                    refine zv_wk hB (L' := [.inr 0, .inr 1000, .inl x2, .inl x3, .inl x4, .inl (zi_w (x4 + (zi_rem (g0 x5) 1048576))), .inr 1000, .inr 1000]) (F' := []) ⟨fun _ => rfl, fun (h : zv_is (.inr 1000)) => (Nat.lt_irrefl 1000 h).elim, fun _ => rfl, fun _ => rfl, fun _ => rfl, fun _ => rfl, fun (h : zv_is (.inr 1000)) => (Nat.lt_irrefl 1000 h).elim, fun (h : zv_is (.inr 1000)) => (Nat.lt_irrefl 1000 h).elim, trivial⟩ trivial ?_
                    exact ih _ _ _ _ _ q h hK
            · rw [if_pos hc7] at h
              refine zv_ald hB zd249_100 rfl rfl rfl ?_
              refine zv_getr hB zd249_101 rfl ?_
              refine zv_ild hB zd249_104 rfl rfl ?_
              refine zv_con hB zd249_105 rfl ?_
              refine zv_subw hB zd249_106 ?_
              refine zv_con hB zd249_107 rfl ?_
              refine zv_ald hB zd249_108 rfl rfl rfl ?_
              refine zv_getr hB zd249_109 rfl ?_
              refine zv_ild hB zd249_112 rfl rfl ?_
              refine zv_con hB zd249_113 rfl ?_
              refine zv_subw hB zd249_114 ?_
              obtain ⟨c29, h⟩ := zi_if h
              refine zv_iald hB zd249_115 rfl rfl (zi_ix_ok c29).1 (zi_ix_ok c29).2 (fun _ _ => ?_)
              refine zv_subw hB zd249_116 ?_
              refine zv_iast hB zd249_117 rfl rfl (zi_ix_ok c29).1 (zi_ix_ok c29).2 ?_
              refine zv_goto hB zd249_118 rfl ?_
              refine zv_goto hB zd249_230 rfl ?_
              refine zv_wk hB (L' := [.inr 0, .inr 1000, .inl x2, .inl x3, .inl x4, .inl (zi_w (x5 + 1)), .inr 1000, .inr 1000]) (F' := []) ⟨fun _ => rfl, fun (h : zv_is (.inr 1000)) => (Nat.lt_irrefl 1000 h).elim, fun _ => rfl, fun _ => rfl, fun _ => rfl, fun _ => rfl, fun (h : zv_is (.inr 1000)) => (Nat.lt_irrefl 1000 h).elim, fun (h : zv_is (.inr 1000)) => (Nat.lt_irrefl 1000 h).elim, trivial⟩ trivial ?_
              exact ih _ _ _ _ _ q h hK
          · rw [if_pos hc6] at h
            refine zv_ald hB zd249_63 rfl rfl rfl ?_
            refine zv_getr hB zd249_64 rfl ?_
            refine zv_ild hB zd249_67 rfl rfl ?_
            refine zv_ild hB zd249_68 rfl rfl ?_
            refine zv_zne hB zd249_70 rfl (fun _ => ?_) (fun hc => absurd hc (by omega))
            refine zv_ald hB zd249_78 rfl rfl rfl ?_
            refine zv_getr hB zd249_79 rfl ?_
            refine zv_ild hB zd249_82 rfl rfl ?_
            obtain ⟨c31, h⟩ := zi_if h
            refine zv_iald hB zd249_84 rfl rfl (zi_ix_ok c31).1 (zi_ix_ok c31).2 (fun _ _ => ?_)
            obtain ⟨c32, h⟩ := zi_if h
            refine zv_iast hB zd249_85 rfl rfl (zi_ix_ok c32).1 (zi_ix_ok c32).2 ?_
            refine zv_ild hB zd249_86 rfl rfl ?_
            refine zv_con hB zd249_87 rfl ?_
            refine zv_addw hB zd249_88 ?_
            refine zv_ist hB zd249_89 rfl rfl rfl ?_
            refine zv_goto hB zd249_90 rfl ?_
            refine zv_goto hB zd249_230 rfl ?_
            refine zv_wk hB (L' := [.inr 0, .inr 1000, .inl x2, .inl (zi_w (x3 + 1)), .inl x4, .inl (zi_w (x5 + 1)), .inr 1000, .inr 1000]) (F' := []) ⟨fun _ => rfl, fun (h : zv_is (.inr 1000)) => (Nat.lt_irrefl 1000 h).elim, fun _ => rfl, fun _ => rfl, fun _ => rfl, fun _ => rfl, fun (h : zv_is (.inr 1000)) => (Nat.lt_irrefl 1000 h).elim, fun (h : zv_is (.inr 1000)) => (Nat.lt_irrefl 1000 h).elim, trivial⟩ trivial ?_
            exact ih _ _ _ _ _ q h hK
  unfold zf_M_comesTo at h
  refine zv_con hB zd249_0 rfl ?_
  refine zv_ist hB zd249_1 rfl rfl rfl ?_
  refine zv_con hB zd249_2 rfl ?_
  refine zv_ild hB zd249_5 rfl rfl ?_
  refine zv_con hB zd249_6 rfl ?_
  refine zv_divw hB zd249_9 (by decide) ?_
  refine zv_mulw hB zd249_10 ?_
  refine zv_ist hB zd249_11 rfl rfl rfl ?_
  refine zv_ild hB zd249_13 rfl rfl ?_
  refine zv_ist hB zd249_14 rfl rfl rfl ?_
  obtain ⟨q33, hq33, h⟩ := zi_bind h
  refine zv_wk hB (L' := [.inr 0, .inr 1000, .inl x2, .inl 0, .inl (zi_w (220 * (zi_div x1 220))), .inl x1, .inr 1000, .inr 1000]) (F' := []) ⟨fun _ => rfl, fun (h : zv_is (.inr 1000)) => (Nat.lt_irrefl 1000 h).elim, fun _ => rfl, fun _ => rfl, fun _ => rfl, fun _ => rfl, fun (h : zv_is (.inr 1000)) => (Nat.lt_irrefl 1000 h).elim, fun (h : zv_is (.inr 1000)) => (Nat.lt_irrefl 1000 h).elim, trivial⟩ trivial ?_
  refine l0 _ _ _ _ _ _ q33 hq33 ?_
  rcases q33 with e34 | w35
  · replace h := zi_sl h
    show good 233 [.inr 0, .inr 1000, .inr 1000, .inr 1000, .inr 1000, .inr 1000, .inr 1000, .inr 1000] [] [] [g0, e34, g2]
    refine zv_ald hB zd249_233 rfl rfl rfl ?_
    refine zv_getr hB zd249_234 rfl ?_
    refine zv_con hB zd249_237 rfl ?_
    refine zv_iald hB zd249_238 rfl rfl (by decide) (by decide) (fun _ _ => ?_)
    have hw := Option.some.inj h
    subst hw
    exact hret _ _ _ _ _ zd249_239 (by trivial) ⟨rfl, rfl, rfl⟩
  · exact Option.some.inj h
end
section
/-! Methods as functions, and that they do what these do. -/
/-! M_anyOf (I)Z -/
-- names: 0 StarTalesModel('arg', 0), 1 (0, 14)(0, 12, 21), 2 (0, 14)(0, 12, 23), 3 (0, 14)(0, 12, 24), 4 (0, 220)(0, 12, 20), 5 (0, 220)(0, 12, 25), 6 (0, 13)(0, 12, 26)
-- fields: f0 = 0.clauses_; arrays: g0 = 1, g1 = 2, g2 = 3, g3 = 4, g4 = 5, g5 = 6; out: [('ret', None), ('g', 4)]
abbrev zy_M_anyOf : zNL := (7, [(0, 12)], [(0, 12, 13, 0)], [(0, 12, 21, 1), (0, 12, 23, 2), (0, 12, 24, 3), (0, 12, 20, 4), (0, 12, 25, 5), (0, 12, 26, 6)], [(1, 0, 14, 0), (2, 0, 14, 1), (3, 0, 14, 2), (4, 0, 220, 3), (5, 0, 220, 4), (6, 0, 13, 5)])
theorem zyw_M_anyOf : zv_wf zy_M_anyOf = true := by decide +kernel
theorem zye_M_anyOf : zv_ek2 zy_M_anyOf = true := by decide +kernel
def zf_M_anyOf_l0_b (x1 : Int) (f0 : Int) (g0 : (Int → Int)) (g1 : (Int → Int)) (g2 : (Int → Int)) (g3 : (Int → Int)) (g5 : (Int → Int)) (rec : Int → (Int → Int) → Option ((((Int → Int)) ⊕ (Int × (Int → Int))))) (x2 : Int) (g4 : (Int → Int)) : Option ((((Int → Int)) ⊕ (Int × (Int → Int)))) := if x2 < f0 then (cond (zi_ix x2 14) (if (g0 x2) = x1 then ((zf_M_comesTo (g1 x2) (g2 x2) g3 g4 g5).bind fun r4 => (if r4.1 = 1 then (some (.inr (1, r4.2))) else (rec (zi_w (x2 + 1)) r4.2))) else (rec (zi_w (x2 + 1)) g4)) none) else (some (.inl g4))
def zf_M_anyOf_l0 (x1 : Int) (f0 : Int) (g0 : (Int → Int)) (g1 : (Int → Int)) (g2 : (Int → Int)) (g3 : (Int → Int)) (g5 : (Int → Int)) : Nat → Int → (Int → Int) → Option ((((Int → Int)) ⊕ (Int × (Int → Int))))
  | 0, _, _ => none
  | n + 1, x2, g4 => zf_M_anyOf_l0_b x1 f0 g0 g1 g2 g3 g5 (zf_M_anyOf_l0 x1 f0 g0 g1 g2 g3 g5 n) x2 g4
def zf_M_anyOf (x1 : Int) (f0 : Int) (g0 : (Int → Int)) (g1 : (Int → Int)) (g2 : (Int → Int)) (g3 : (Int → Int)) (g4 : (Int → Int)) (g5 : (Int → Int)) : Option (Int × (Int → Int)) := (zf_M_anyOf_l0 x1 f0 g0 g1 g2 g3 g5 zi_fu 0 g4).bind fun q6 => Sum.elim (fun e7 => (some (0, e7))) (fun w8 => some w8) q6
theorem zd248_0 : decode zxm248.2.1 0 = .ok (.iconst 0, 1) := by decide +kernel
theorem zd248_1 : decode zxm248.2.1 1 = .ok (.istore_n 2, 1) := by decide +kernel
theorem zd248_2 : decode zxm248.2.1 2 = .ok (.iload_n 2, 1) := by decide +kernel
theorem zd248_3 : decode zxm248.2.1 3 = .ok (.aload_n 0, 1) := by decide +kernel
theorem zd248_4 : decode zxm248.2.1 4 = .ok (.getfield 268, 3) := by decide +kernel
theorem zd248_7 : decode zxm248.2.1 7 = .ok (.if_icmp .ge 41, 3) := by decide +kernel
theorem zd248_10 : decode zxm248.2.1 10 = .ok (.aload_n 0, 1) := by decide +kernel
theorem zd248_11 : decode zxm248.2.1 11 = .ok (.getfield 44, 3) := by decide +kernel
theorem zd248_14 : decode zxm248.2.1 14 = .ok (.iload_n 2, 1) := by decide +kernel
theorem zd248_15 : decode zxm248.2.1 15 = .ok (.iaload, 1) := by decide +kernel
theorem zd248_16 : decode zxm248.2.1 16 = .ok (.iload_n 1, 1) := by decide +kernel
theorem zd248_17 : decode zxm248.2.1 17 = .ok (.if_icmp .ne 25, 3) := by decide +kernel
theorem zd248_20 : decode zxm248.2.1 20 = .ok (.aload_n 0, 1) := by decide +kernel
theorem zd248_21 : decode zxm248.2.1 21 = .ok (.aload_n 0, 1) := by decide +kernel
theorem zd248_22 : decode zxm248.2.1 22 = .ok (.getfield 50, 3) := by decide +kernel
theorem zd248_25 : decode zxm248.2.1 25 = .ok (.iload_n 2, 1) := by decide +kernel
theorem zd248_26 : decode zxm248.2.1 26 = .ok (.iaload, 1) := by decide +kernel
theorem zd248_27 : decode zxm248.2.1 27 = .ok (.aload_n 0, 1) := by decide +kernel
theorem zd248_28 : decode zxm248.2.1 28 = .ok (.getfield 53, 3) := by decide +kernel
theorem zd248_31 : decode zxm248.2.1 31 = .ok (.iload_n 2, 1) := by decide +kernel
theorem zd248_32 : decode zxm248.2.1 32 = .ok (.iaload, 1) := by decide +kernel
theorem zd248_33 : decode zxm248.2.1 33 = .ok (.invokevirtual 275, 3) := by decide +kernel
theorem zd248_36 : decode zxm248.2.1 36 = .ok (.iconst 1, 1) := by decide +kernel
theorem zd248_37 : decode zxm248.2.1 37 = .ok (.if_icmp .ne 5, 3) := by decide +kernel
theorem zd248_40 : decode zxm248.2.1 40 = .ok (.iconst 1, 1) := by decide +kernel
theorem zd248_41 : decode zxm248.2.1 41 = .ok (.ireturn, 1) := by decide +kernel
theorem zd248_42 : decode zxm248.2.1 42 = .ok (.iinc 2 1, 3) := by decide +kernel
theorem zd248_45 : decode zxm248.2.1 45 = .ok (.goto (-43), 3) := by decide +kernel
theorem zd248_48 : decode zxm248.2.1 48 = .ok (.iconst 0, 1) := by decide +kernel
theorem zd248_49 : decode zxm248.2.1 49 = .ok (.ireturn, 1) := by decide +kernel
theorem zt_M_anyOf {x1 : Int} {f0 : Int} {g0 : (Int → Int)} {g1 : (Int → Int)} {g2 : (Int → Int)} {g3 : (Int → Int)} {g4 : (Int → Int)} {g5 : (Int → Int)} {o : Int × (Int → Int)} (h : zf_M_anyOf x1 f0 g0 g1 g2 g3 g4 g5 = some o) : zv_Fn z_TB z_cl z_KX zy_M_anyOf zxm248 (2, 120) [.inr 0, .inl x1] [.inl f0] [g0, g1, g2, g3, g4, g5] (some o.1) [.inl f0] [g0, g1, g2, g3, o.2, g5] := zv_meth (K := (z_KF13, z_KC13, z_KL13, z_KT13, [], [], [], none)) (FT := z_FT) (MT := z_MT) (n := 2) zxp248 (z_ks13 _ (fun _ h => List.mem_cons_of_mem _ h) _ _ _ _ (fun j r h _ => by cases h)) (fun _ _ => zs_KX_p) zyw_M_anyOf (fun va F G h => by obtain ⟨rfl, _⟩ := h; rfl) (fun va F G h => by obtain ⟨rfl, _⟩ := h; rfl) rfl fun good va F G hB hret hvret hP => by
  obtain ⟨rfl, rfl, rfl⟩ := hP
  have l0 : ∀ (n : Nat) (x1 : Int) (x2 : Int) (g4 : (Int → Int)) (q : (((Int → Int)) ⊕ (Int × (Int → Int)))), zf_M_anyOf_l0 x1 f0 g0 g1 g2 g3 g5 n x2 g4 = some q → (Sum.elim (fun e : (Int → Int) => good 48 [.inr 1000, .inr 1000, .inr 1000] [] [.inl f0] [g0, g1, g2, g3, e, g5]) (fun w : Int × (Int → Int) => w = o) q) → good 2 [.inr 0, .inl x1, .inl x2] [] [.inl f0] [g0, g1, g2, g3, g4, g5] := by
    intro n
    induction n with
    | zero => intro x1 x2 g4 q h; exact absurd (show none = some q from h) (fun h => by cases h)
    | succ n ih =>
      intro x1 x2 g4 q h hK
      replace h : zf_M_anyOf_l0_b x1 f0 g0 g1 g2 g3 g5 (zf_M_anyOf_l0 x1 f0 g0 g1 g2 g3 g5 n) x2 g4 = some q := h
      unfold zf_M_anyOf_l0_b at h
      refine zv_ild hB zd248_2 rfl rfl ?_
      refine zv_ald hB zd248_3 rfl rfl rfl ?_
      refine zv_getf hB zd248_4 rfl rfl (fun _ _ => ?_)
      refine zv_cge hB zd248_7 rfl (fun hc1 => ?_) (fun hc1 => ?_)
      · rw [if_neg (Int.not_lt.mpr hc1)] at h
        have hq := Option.some.inj h
        subst hq
        refine zv_wk hB (L' := [.inr 1000, .inr 1000, .inr 1000]) (F' := [.inl f0]) ⟨fun (h : zv_is (.inr 1000)) => (Nat.lt_irrefl 1000 h).elim, fun (h : zv_is (.inr 1000)) => (Nat.lt_irrefl 1000 h).elim, fun (h : zv_is (.inr 1000)) => (Nat.lt_irrefl 1000 h).elim, trivial⟩ ⟨fun _ => rfl, trivial⟩ ?_
        exact hK
      · rw [if_pos hc1] at h
        refine zv_ald hB zd248_10 rfl rfl rfl ?_
        refine zv_getr hB zd248_11 rfl ?_
        refine zv_ild hB zd248_14 rfl rfl ?_
        obtain ⟨c2, h⟩ := zi_if h
        refine zv_iald hB zd248_15 rfl rfl (zi_ix_ok c2).1 (zi_ix_ok c2).2 (fun _ _ => ?_)
        refine zv_ild hB zd248_16 rfl rfl ?_
        refine zv_cne hB zd248_17 rfl (fun hc3 => ?_) (fun hc3 => ?_)
        · rw [if_neg hc3] at h
          refine zv_iincw hB zd248_42 rfl rfl ?_
          refine zv_goto hB zd248_45 rfl ?_
          exact ih _ _ _ q h hK
        · rw [if_pos hc3] at h
          refine zv_ald hB zd248_20 rfl rfl rfl ?_
          refine zv_ald hB zd248_21 rfl rfl rfl ?_
          refine zv_getr hB zd248_22 rfl ?_
          refine zv_ild hB zd248_25 rfl rfl ?_
          refine zv_iald hB zd248_26 rfl rfl (zi_ix_ok c2).1 (zi_ix_ok c2).2 (fun _ _ => ?_)
          refine zv_ald hB zd248_27 rfl rfl rfl ?_
          refine zv_getr hB zd248_28 rfl ?_
          refine zv_ild hB zd248_31 rfl rfl ?_
          refine zv_iald hB zd248_32 rfl rfl (zi_ix_ok c2).1 (zi_ix_ok c2).2 (fun _ _ => ?_)
          obtain ⟨r4, hr4, h⟩ := zi_bind h
          refine zv_cv hB (zv_emq (va2 := [.inr 0, .inl (g1 x2), .inl (g2 x2)]) (F := [.inl f0]) (F' := [.inl f0]) (G := [g0, g1, g2, g3, g4, g5]) (G' := [g0, g1, g2, g3, r4.2, g5]) (ρ := [0, 4, 5, 6]) (φ := []) (ψ := [3, 4, 5]) [none] [none, none, none, some 0, some 1, some 2] zyw_M_comesTo zyw_M_anyOf zye_M_anyOf (by decide +kernel) (zt_M_comesTo hr4) trivial ⟨rfl, rfl, rfl, trivial⟩ rfl rfl rfl rfl rfl rfl rfl) zd248_33 zxt249 rfl (by decide) (by decide) rfl ?_
          refine zv_con hB zd248_36 rfl ?_
          refine zv_cne hB zd248_37 rfl (fun hc5 => ?_) (fun hc5 => ?_)
          · rw [if_neg hc5] at h
            refine zv_iincw hB zd248_42 rfl rfl ?_
            refine zv_goto hB zd248_45 rfl ?_
            exact ih _ _ _ q h hK
          · rw [if_pos hc5] at h
            refine zv_con hB zd248_40 rfl ?_
            have hw : (1, r4.2) = o := zi_rk (Option.some.inj h) hK
            subst hw
            exact hret _ _ _ _ _ zd248_41 (by constructor <;> decide) ⟨rfl, rfl, rfl⟩
  unfold zf_M_anyOf at h
  refine zv_con hB zd248_0 rfl ?_
  refine zv_ist hB zd248_1 rfl rfl rfl ?_
  obtain ⟨q6, hq6, h⟩ := zi_bind h
  refine l0 _ _ _ _ q6 hq6 ?_
  rcases q6 with e7 | w8
  · replace h := zi_sl h
    show good 48 [.inr 1000, .inr 1000, .inr 1000] [] [.inl f0] [g0, g1, g2, g3, e7, g5]
    refine zv_con hB zd248_48 rfl ?_
    have hw := Option.some.inj h
    subst hw
    exact hret _ _ _ _ _ zd248_49 (by constructor <;> decide) ⟨rfl, rfl, rfl⟩
  · exact Option.some.inj h
/-! M_isSeen (II)Z -/
-- names: 0 StarTalesModel('arg', 0), 1 (0, 422)(0, 12, 0), 2 (0, 14)(0, 12, 21), 3 (0, 13)(0, 12, 26), 4 (0, 14)(0, 12, 23), 5 (0, 14)(0, 12, 24), 6 (0, 220)(0, 12, 20), 7 (0, 220)(0, 12, 25)
-- fields: f0 = 0.clauses_; arrays: g0 = 1, g1 = 2, g2 = 3, g3 = 4, g4 = 5, g5 = 6, g6 = 7; out: [('ret', None), ('g', 2), ('g', 6)]
abbrev zy_M_isSeen : zNL := (8, [(0, 12)], [(0, 12, 13, 0)], [(0, 12, 0, 1), (0, 12, 21, 2), (0, 12, 26, 3), (0, 12, 23, 4), (0, 12, 24, 5), (0, 12, 20, 6), (0, 12, 25, 7)], [(1, 0, 422, 0), (2, 0, 14, 1), (3, 0, 13, 2), (4, 0, 14, 3), (5, 0, 14, 4), (6, 0, 220, 5), (7, 0, 220, 6)])
theorem zyw_M_isSeen : zv_wf zy_M_isSeen = true := by decide +kernel
theorem zye_M_isSeen : zv_ek2 zy_M_isSeen = true := by decide +kernel
def zf_M_isSeen (x1 : Int) (x2 : Int) (f0 : Int) (g0 : (Int → Int)) (g1 : (Int → Int)) (g2 : (Int → Int)) (g3 : (Int → Int)) (g4 : (Int → Int)) (g5 : (Int → Int)) (g6 : (Int → Int)) : Option (Int × (Int → Int) × (Int → Int)) := (zf_M_standsAt x2 g0).bind fun r1 => ((zf_M_toRight (zi_rem x1 24) r1).bind fun r2 => ((zf_M_size r2).bind fun r3 => (if (g0 131) < r3 then (some (0, g2, g6)) else (cond (zi_ix (zi_w (24 + x2)) 422) ((zf_M_size (zi_w ((g0 (zi_w (24 + x2))) - (zi_div x1 24)))).bind fun r6 => (if (g0 132) < r6 then (some (0, g2, g6)) else ((zf_M_has (g0 130) r1).bind fun r8 => (if r8 = 0 then ((zf_M_hasClause 118 f0 g1).bind fun r10 => (if r10 = 0 then (some (1, g2, g6)) else ((zf_M_feelsStar x2 g2 g0).bind fun r12 => ((zf_M_way (zi_rem x1 24) (zi_div x1 24) r1 (g0 (zi_w (24 + x2)))).bind fun r13 => ((zf_M_anyOf 118 f0 g1 g3 g4 g5 g6 (zv_up (zv_up (zv_up r12 10 (zi_rem x1 24)) 11 (zi_div x1 24)) 12 r13)).bind fun r14 => (cond (zi_bo r14.1) (some (r14.1, (zv_up (zv_up (zv_up r12 10 (zi_rem x1 24)) 11 (zi_div x1 24)) 12 r13), r14.2)) none)))))) else (some (0, g2, g6)))))) none))))
theorem zd241_0 : decode zxm241.2.1 0 = .ok (.iload_n 1, 1) := by decide +kernel
theorem zd241_1 : decode zxm241.2.1 1 = .ok (.bipush 24, 2) := by decide +kernel
theorem zd241_3 : decode zxm241.2.1 3 = .ok (.irem, 1) := by decide +kernel
theorem zd241_4 : decode zxm241.2.1 4 = .ok (.istore_n 3, 1) := by decide +kernel
theorem zd241_5 : decode zxm241.2.1 5 = .ok (.iload_n 1, 1) := by decide +kernel
theorem zd241_6 : decode zxm241.2.1 6 = .ok (.bipush 24, 2) := by decide +kernel
theorem zd241_8 : decode zxm241.2.1 8 = .ok (.idiv, 1) := by decide +kernel
theorem zd241_9 : decode zxm241.2.1 9 = .ok (.istore 4, 2) := by decide +kernel
theorem zd241_11 : decode zxm241.2.1 11 = .ok (.aload_n 0, 1) := by decide +kernel
theorem zd241_12 : decode zxm241.2.1 12 = .ok (.iload_n 2, 1) := by decide +kernel
theorem zd241_13 : decode zxm241.2.1 13 = .ok (.invokevirtual 281, 3) := by decide +kernel
theorem zd241_16 : decode zxm241.2.1 16 = .ok (.istore 5, 2) := by decide +kernel
theorem zd241_18 : decode zxm241.2.1 18 = .ok (.iload_n 3, 1) := by decide +kernel
theorem zd241_19 : decode zxm241.2.1 19 = .ok (.iload 5, 2) := by decide +kernel
theorem zd241_21 : decode zxm241.2.1 21 = .ok (.invokestatic 142, 3) := by decide +kernel
theorem zd241_24 : decode zxm241.2.1 24 = .ok (.invokestatic 146, 3) := by decide +kernel
theorem zd241_27 : decode zxm241.2.1 27 = .ok (.aload_n 0, 1) := by decide +kernel
theorem zd241_28 : decode zxm241.2.1 28 = .ok (.getfield 7, 3) := by decide +kernel
theorem zd241_31 : decode zxm241.2.1 31 = .ok (.sipush 131, 3) := by decide +kernel
theorem zd241_34 : decode zxm241.2.1 34 = .ok (.iaload, 1) := by decide +kernel
theorem zd241_35 : decode zxm241.2.1 35 = .ok (.if_icmp .gt 45, 3) := by decide +kernel
theorem zd241_38 : decode zxm241.2.1 38 = .ok (.aload_n 0, 1) := by decide +kernel
theorem zd241_39 : decode zxm241.2.1 39 = .ok (.getfield 7, 3) := by decide +kernel
theorem zd241_42 : decode zxm241.2.1 42 = .ok (.bipush 24, 2) := by decide +kernel
theorem zd241_44 : decode zxm241.2.1 44 = .ok (.iload_n 2, 1) := by decide +kernel
theorem zd241_45 : decode zxm241.2.1 45 = .ok (.iadd, 1) := by decide +kernel
theorem zd241_46 : decode zxm241.2.1 46 = .ok (.iaload, 1) := by decide +kernel
theorem zd241_47 : decode zxm241.2.1 47 = .ok (.iload 4, 2) := by decide +kernel
theorem zd241_49 : decode zxm241.2.1 49 = .ok (.isub, 1) := by decide +kernel
theorem zd241_50 : decode zxm241.2.1 50 = .ok (.invokestatic 146, 3) := by decide +kernel
theorem zd241_53 : decode zxm241.2.1 53 = .ok (.aload_n 0, 1) := by decide +kernel
theorem zd241_54 : decode zxm241.2.1 54 = .ok (.getfield 7, 3) := by decide +kernel
theorem zd241_57 : decode zxm241.2.1 57 = .ok (.sipush 132, 3) := by decide +kernel
theorem zd241_60 : decode zxm241.2.1 60 = .ok (.iaload, 1) := by decide +kernel
theorem zd241_61 : decode zxm241.2.1 61 = .ok (.if_icmp .gt 19, 3) := by decide +kernel
theorem zd241_64 : decode zxm241.2.1 64 = .ok (.aload_n 0, 1) := by decide +kernel
theorem zd241_65 : decode zxm241.2.1 65 = .ok (.getfield 7, 3) := by decide +kernel
theorem zd241_68 : decode zxm241.2.1 68 = .ok (.sipush 130, 3) := by decide +kernel
theorem zd241_71 : decode zxm241.2.1 71 = .ok (.iaload, 1) := by decide +kernel
theorem zd241_72 : decode zxm241.2.1 72 = .ok (.iload 5, 2) := by decide +kernel
theorem zd241_74 : decode zxm241.2.1 74 = .ok (.invokestatic 138, 3) := by decide +kernel
theorem zd241_77 : decode zxm241.2.1 77 = .ok (.ifCond .eq 5, 3) := by decide +kernel
theorem zd241_80 : decode zxm241.2.1 80 = .ok (.iconst 0, 1) := by decide +kernel
theorem zd241_81 : decode zxm241.2.1 81 = .ok (.ireturn, 1) := by decide +kernel
theorem zd241_82 : decode zxm241.2.1 82 = .ok (.aload_n 0, 1) := by decide +kernel
theorem zd241_83 : decode zxm241.2.1 83 = .ok (.bipush 118, 2) := by decide +kernel
theorem zd241_85 : decode zxm241.2.1 85 = .ok (.invokevirtual 284, 3) := by decide +kernel
theorem zd241_88 : decode zxm241.2.1 88 = .ok (.ifCond .ne 5, 3) := by decide +kernel
theorem zd241_91 : decode zxm241.2.1 91 = .ok (.iconst 1, 1) := by decide +kernel
theorem zd241_92 : decode zxm241.2.1 92 = .ok (.ireturn, 1) := by decide +kernel
theorem zd241_93 : decode zxm241.2.1 93 = .ok (.aload_n 0, 1) := by decide +kernel
theorem zd241_94 : decode zxm241.2.1 94 = .ok (.iload_n 2, 1) := by decide +kernel
theorem zd241_95 : decode zxm241.2.1 95 = .ok (.invokevirtual 287, 3) := by decide +kernel
theorem zd241_98 : decode zxm241.2.1 98 = .ok (.aload_n 0, 1) := by decide +kernel
theorem zd241_99 : decode zxm241.2.1 99 = .ok (.getfield 59, 3) := by decide +kernel
theorem zd241_102 : decode zxm241.2.1 102 = .ok (.bipush 10, 2) := by decide +kernel
theorem zd241_104 : decode zxm241.2.1 104 = .ok (.iload_n 3, 1) := by decide +kernel
theorem zd241_105 : decode zxm241.2.1 105 = .ok (.iastore, 1) := by decide +kernel
theorem zd241_106 : decode zxm241.2.1 106 = .ok (.aload_n 0, 1) := by decide +kernel
theorem zd241_107 : decode zxm241.2.1 107 = .ok (.getfield 59, 3) := by decide +kernel
theorem zd241_110 : decode zxm241.2.1 110 = .ok (.bipush 11, 2) := by decide +kernel
theorem zd241_112 : decode zxm241.2.1 112 = .ok (.iload 4, 2) := by decide +kernel
theorem zd241_114 : decode zxm241.2.1 114 = .ok (.iastore, 1) := by decide +kernel
theorem zd241_115 : decode zxm241.2.1 115 = .ok (.aload_n 0, 1) := by decide +kernel
theorem zd241_116 : decode zxm241.2.1 116 = .ok (.getfield 59, 3) := by decide +kernel
theorem zd241_119 : decode zxm241.2.1 119 = .ok (.bipush 12, 2) := by decide +kernel
theorem zd241_121 : decode zxm241.2.1 121 = .ok (.iload_n 3, 1) := by decide +kernel
theorem zd241_122 : decode zxm241.2.1 122 = .ok (.iload 4, 2) := by decide +kernel
theorem zd241_124 : decode zxm241.2.1 124 = .ok (.iload 5, 2) := by decide +kernel
theorem zd241_126 : decode zxm241.2.1 126 = .ok (.aload_n 0, 1) := by decide +kernel
theorem zd241_127 : decode zxm241.2.1 127 = .ok (.getfield 7, 3) := by decide +kernel
theorem zd241_130 : decode zxm241.2.1 130 = .ok (.bipush 24, 2) := by decide +kernel
theorem zd241_132 : decode zxm241.2.1 132 = .ok (.iload_n 2, 1) := by decide +kernel
theorem zd241_133 : decode zxm241.2.1 133 = .ok (.iadd, 1) := by decide +kernel
theorem zd241_134 : decode zxm241.2.1 134 = .ok (.iaload, 1) := by decide +kernel
theorem zd241_135 : decode zxm241.2.1 135 = .ok (.invokestatic 290, 3) := by decide +kernel
theorem zd241_138 : decode zxm241.2.1 138 = .ok (.iastore, 1) := by decide +kernel
theorem zd241_139 : decode zxm241.2.1 139 = .ok (.aload_n 0, 1) := by decide +kernel
theorem zd241_140 : decode zxm241.2.1 140 = .ok (.bipush 118, 2) := by decide +kernel
theorem zd241_142 : decode zxm241.2.1 142 = .ok (.invokevirtual 294, 3) := by decide +kernel
theorem zd241_145 : decode zxm241.2.1 145 = .ok (.ireturn, 1) := by decide +kernel
theorem zt_M_isSeen {x1 : Int} {x2 : Int} {f0 : Int} {g0 : (Int → Int)} {g1 : (Int → Int)} {g2 : (Int → Int)} {g3 : (Int → Int)} {g4 : (Int → Int)} {g5 : (Int → Int)} {g6 : (Int → Int)} {o : Int × (Int → Int) × (Int → Int)} (h : zf_M_isSeen x1 x2 f0 g0 g1 g2 g3 g4 g5 g6 = some o) : zv_Fn z_TB z_cl z_KX zy_M_isSeen zxm241 (3, 180) [.inr 0, .inl x1, .inl x2] [.inl f0] [g0, g1, g2, g3, g4, g5, g6] (some o.1) [.inl f0] [g0, g1, o.2.1, g3, g4, g5, o.2.2] := zv_meth (K := (z_KF13, z_KC13, z_KL13, z_KT13, [], [], [], none)) (FT := z_FT) (MT := z_MT) (n := 3) zxp241 (z_ks13 _ (fun _ h => List.mem_cons_of_mem _ h) _ _ _ _ (fun j r h _ => by cases h)) (fun _ _ => zs_KX_p) zyw_M_isSeen (fun va F G h => by obtain ⟨rfl, _⟩ := h; rfl) (fun va F G h => by obtain ⟨rfl, _⟩ := h; rfl) rfl fun good va F G hB hret hvret hP => by
  obtain ⟨rfl, rfl, rfl⟩ := hP
  unfold zf_M_isSeen at h
  refine zv_ild hB zd241_0 rfl rfl ?_
  refine zv_con hB zd241_1 rfl ?_
  refine zv_remw hB zd241_3 (by decide) ?_
  refine zv_ist hB zd241_4 rfl rfl rfl ?_
  refine zv_ild hB zd241_5 rfl rfl ?_
  refine zv_con hB zd241_6 rfl ?_
  refine zv_divw hB zd241_8 (by decide) ?_
  refine zv_ist hB zd241_9 rfl rfl rfl ?_
  refine zv_ald hB zd241_11 rfl rfl rfl ?_
  refine zv_ild hB zd241_12 rfl rfl ?_
  obtain ⟨r1, hr1, h⟩ := zi_bind h
  refine zv_cv hB (zv_emq (va2 := [.inr 0, .inl x2]) (F := [.inl f0]) (F' := [.inl f0]) (G := [g0, g1, g2, g3, g4, g5, g6]) (G' := [g0, g1, g2, g3, g4, g5, g6]) (ρ := [0, 1]) (φ := []) (ψ := [0]) [none] [some 0, none, none, none, none, none, none] zyw_M_standsAt zyw_M_isSeen zye_M_isSeen (by decide +kernel) (zt_M_standsAt hr1) trivial ⟨rfl, trivial⟩ rfl rfl rfl rfl rfl rfl rfl) zd241_13 zxt238 rfl (by decide) (by decide) rfl ?_
  refine zv_ist hB zd241_16 rfl rfl rfl ?_
  refine zv_ild hB zd241_18 rfl rfl ?_
  refine zv_ild hB zd241_19 rfl rfl ?_
  obtain ⟨r2, hr2, h⟩ := zi_bind h
  refine zv_cs hB (zv_emq (va2 := [.inl (zi_rem x1 24), .inl r1]) (F := [.inl f0]) (F' := [.inl f0]) (G := [g0, g1, g2, g3, g4, g5, g6]) (G' := [g0, g1, g2, g3, g4, g5, g6]) (ρ := []) (φ := []) (ψ := []) [none] [none, none, none, none, none, none, none] zyw_M_toRight zyw_M_isSeen zye_M_isSeen (by decide +kernel) (zt_M_toRight hr2) trivial trivial rfl rfl rfl rfl rfl rfl rfl) zd241_21 zxt242 rfl (by decide) (by decide) rfl ?_
  obtain ⟨r3, hr3, h⟩ := zi_bind h
  refine zv_cs hB (zv_emq (va2 := [.inl r2]) (F := [.inl f0]) (F' := [.inl f0]) (G := [g0, g1, g2, g3, g4, g5, g6]) (G' := [g0, g1, g2, g3, g4, g5, g6]) (ρ := []) (φ := []) (ψ := []) [none] [none, none, none, none, none, none, none] zyw_M_size zyw_M_isSeen zye_M_isSeen (by decide +kernel) (zt_M_size hr3) trivial trivial rfl rfl rfl rfl rfl rfl rfl) zd241_24 zxt243 rfl (by decide) (by decide) rfl ?_
  refine zv_ald hB zd241_27 rfl rfl rfl ?_
  refine zv_getr hB zd241_28 rfl ?_
  refine zv_con hB zd241_31 rfl ?_
  refine zv_iald hB zd241_34 rfl rfl (by decide) (by decide) (fun _ _ => ?_)
  refine zv_cgt hB zd241_35 rfl (fun hc4 => ?_) (fun hc4 => ?_)
  · rw [if_pos hc4] at h
    refine zv_con hB zd241_80 rfl ?_
    have hw := Option.some.inj h
    subst hw
    exact hret _ _ _ _ _ zd241_81 (by constructor <;> decide) ⟨rfl, rfl, rfl⟩
  · rw [if_neg (Int.not_lt.mpr hc4)] at h
    refine zv_ald hB zd241_38 rfl rfl rfl ?_
    refine zv_getr hB zd241_39 rfl ?_
    refine zv_con hB zd241_42 rfl ?_
    refine zv_ild hB zd241_44 rfl rfl ?_
    refine zv_addw hB zd241_45 ?_
    obtain ⟨c5, h⟩ := zi_if h
    refine zv_iald hB zd241_46 rfl rfl (zi_ix_ok c5).1 (zi_ix_ok c5).2 (fun _ _ => ?_)
    refine zv_ild hB zd241_47 rfl rfl ?_
    refine zv_subw hB zd241_49 ?_
    obtain ⟨r6, hr6, h⟩ := zi_bind h
    refine zv_cs hB (zv_emq (va2 := [.inl (zi_w ((g0 (zi_w (24 + x2))) - (zi_div x1 24)))]) (F := [.inl f0]) (F' := [.inl f0]) (G := [g0, g1, g2, g3, g4, g5, g6]) (G' := [g0, g1, g2, g3, g4, g5, g6]) (ρ := []) (φ := []) (ψ := []) [none] [none, none, none, none, none, none, none] zyw_M_size zyw_M_isSeen zye_M_isSeen (by decide +kernel) (zt_M_size hr6) trivial trivial rfl rfl rfl rfl rfl rfl rfl) zd241_50 zxt243 rfl (by decide) (by decide) rfl ?_
    refine zv_ald hB zd241_53 rfl rfl rfl ?_
    refine zv_getr hB zd241_54 rfl ?_
    refine zv_con hB zd241_57 rfl ?_
    refine zv_iald hB zd241_60 rfl rfl (by decide) (by decide) (fun _ _ => ?_)
    refine zv_cgt hB zd241_61 rfl (fun hc7 => ?_) (fun hc7 => ?_)
    · rw [if_pos hc7] at h
      refine zv_con hB zd241_80 rfl ?_
      have hw := Option.some.inj h
      subst hw
      exact hret _ _ _ _ _ zd241_81 (by constructor <;> decide) ⟨rfl, rfl, rfl⟩
    · rw [if_neg (Int.not_lt.mpr hc7)] at h
      refine zv_ald hB zd241_64 rfl rfl rfl ?_
      refine zv_getr hB zd241_65 rfl ?_
      refine zv_con hB zd241_68 rfl ?_
      refine zv_iald hB zd241_71 rfl rfl (by decide) (by decide) (fun _ _ => ?_)
      refine zv_ild hB zd241_72 rfl rfl ?_
      obtain ⟨r8, hr8, h⟩ := zi_bind h
      refine zv_cs hB (zv_emq (va2 := [.inl (g0 130), .inl r1]) (F := [.inl f0]) (F' := [.inl f0]) (G := [g0, g1, g2, g3, g4, g5, g6]) (G' := [g0, g1, g2, g3, g4, g5, g6]) (ρ := []) (φ := []) (ψ := []) [none] [none, none, none, none, none, none, none] zyw_M_has zyw_M_isSeen zye_M_isSeen (by decide +kernel) (zt_M_has hr8) trivial trivial rfl rfl rfl rfl rfl rfl rfl) zd241_74 zxt204 rfl (by decide) (by decide) rfl ?_
      refine zv_zeq hB zd241_77 rfl (fun hc9 => ?_) (fun hc9 => ?_)
      · rw [if_pos hc9] at h
        refine zv_ald hB zd241_82 rfl rfl rfl ?_
        refine zv_con hB zd241_83 rfl ?_
        obtain ⟨r10, hr10, h⟩ := zi_bind h
        refine zv_cv hB (zv_emq (va2 := [.inr 0, .inl 118]) (F := [.inl f0]) (F' := [.inl f0]) (G := [g0, g1, g2, g3, g4, g5, g6]) (G' := [g0, g1, g2, g3, g4, g5, g6]) (ρ := [0, 2]) (φ := [0]) (ψ := [1]) [some 0] [none, some 0, none, none, none, none, none] zyw_M_hasClause zyw_M_isSeen zye_M_isSeen (by decide +kernel) (zt_M_hasClause hr10) ⟨⟨_, rfl, fun _ => rfl⟩, trivial⟩ ⟨rfl, trivial⟩ rfl rfl rfl rfl rfl rfl rfl) zd241_85 zxt244 rfl (by decide) (by decide) rfl ?_
        refine zv_zne hB zd241_88 rfl (fun hc11 => ?_) (fun hc11 => ?_)
        · rw [if_neg hc11] at h
          refine zv_ald hB zd241_93 rfl rfl rfl ?_
          refine zv_ild hB zd241_94 rfl rfl ?_
          obtain ⟨r12, hr12, h⟩ := zi_bind h
          refine zv_cv hB (zv_emq (va2 := [.inr 0, .inl x2]) (F := [.inl f0]) (F' := [.inl f0]) (G := [g0, g1, g2, g3, g4, g5, g6]) (G' := [g0, g1, r12, g3, g4, g5, g6]) (ρ := [0, 3, 1]) (φ := []) (ψ := [2, 0]) [none] [some 1, none, some 0, none, none, none, none] zyw_M_feelsStar zyw_M_isSeen zye_M_isSeen (by decide +kernel) (zt_M_feelsStar hr12) trivial ⟨rfl, rfl, trivial⟩ rfl rfl rfl rfl rfl rfl rfl) zd241_95 zxt245 rfl (by decide) (by decide) rfl ?_
          refine zv_ald hB zd241_98 rfl rfl rfl ?_
          refine zv_getr hB zd241_99 rfl ?_
          refine zv_con hB zd241_102 rfl ?_
          refine zv_ild hB zd241_104 rfl rfl ?_
          refine zv_iast hB zd241_105 rfl rfl (by decide) (by decide) ?_
          refine zv_ald hB zd241_106 rfl rfl rfl ?_
          refine zv_getr hB zd241_107 rfl ?_
          refine zv_con hB zd241_110 rfl ?_
          refine zv_ild hB zd241_112 rfl rfl ?_
          refine zv_iast hB zd241_114 rfl rfl (by decide) (by decide) ?_
          refine zv_ald hB zd241_115 rfl rfl rfl ?_
          refine zv_getr hB zd241_116 rfl ?_
          refine zv_con hB zd241_119 rfl ?_
          refine zv_ild hB zd241_121 rfl rfl ?_
          refine zv_ild hB zd241_122 rfl rfl ?_
          refine zv_ild hB zd241_124 rfl rfl ?_
          refine zv_ald hB zd241_126 rfl rfl rfl ?_
          refine zv_getr hB zd241_127 rfl ?_
          refine zv_con hB zd241_130 rfl ?_
          refine zv_ild hB zd241_132 rfl rfl ?_
          refine zv_addw hB zd241_133 ?_
          refine zv_iald hB zd241_134 rfl rfl (zi_ix_ok c5).1 (zi_ix_ok c5).2 (fun _ _ => ?_)
          obtain ⟨r13, hr13, h⟩ := zi_bind h
          refine zv_cs hB (zv_emq (va2 := [.inl (zi_rem x1 24), .inl (zi_div x1 24), .inl r1, .inl (g0 (zi_w (24 + x2)))]) (F := [.inl f0]) (F' := [.inl f0]) (G := [g0, g1, (zv_up (zv_up r12 10 (zi_rem x1 24)) 11 (zi_div x1 24)), g3, g4, g5, g6]) (G' := [g0, g1, (zv_up (zv_up r12 10 (zi_rem x1 24)) 11 (zi_div x1 24)), g3, g4, g5, g6]) (ρ := []) (φ := []) (ψ := []) [none] [none, none, none, none, none, none, none] zyw_M_way zyw_M_isSeen zye_M_isSeen (by decide +kernel) (zt_M_way hr13) trivial trivial rfl rfl rfl rfl rfl rfl rfl) zd241_135 zxt247 rfl (by decide) (by decide) rfl ?_
          refine zv_iast hB zd241_138 rfl rfl (by decide) (by decide) ?_
          refine zv_ald hB zd241_139 rfl rfl rfl ?_
          refine zv_con hB zd241_140 rfl ?_
          obtain ⟨r14, hr14, h⟩ := zi_bind h
          refine zv_cv hB (zv_emq (va2 := [.inr 0, .inl 118]) (F := [.inl f0]) (F' := [.inl f0]) (G := [g0, g1, (zv_up (zv_up (zv_up r12 10 (zi_rem x1 24)) 11 (zi_div x1 24)) 12 r13), g3, g4, g5, g6]) (G' := [g0, g1, (zv_up (zv_up (zv_up r12 10 (zi_rem x1 24)) 11 (zi_div x1 24)) 12 r13), g3, g4, g5, r14.2]) (ρ := [0, 2, 4, 5, 6, 7, 3]) (φ := [0]) (ψ := [1, 3, 4, 5, 6, 2]) [some 0] [none, some 0, some 5, some 1, some 2, some 3, some 4] zyw_M_anyOf zyw_M_isSeen zye_M_isSeen (by decide +kernel) (zt_M_anyOf hr14) ⟨⟨_, rfl, fun _ => rfl⟩, trivial⟩ ⟨rfl, rfl, rfl, rfl, rfl, rfl, trivial⟩ rfl rfl rfl rfl rfl rfl rfl) zd241_142 zxt248 rfl (by decide) (by decide) rfl ?_
          obtain ⟨c15, h⟩ := zi_if h
          have hw := Option.some.inj h
          subst hw
          exact hret _ _ _ _ _ zd241_145 (zi_bo_ok c15) ⟨rfl, rfl, rfl⟩
        · rw [if_pos hc11] at h
          refine zv_con hB zd241_91 rfl ?_
          have hw := Option.some.inj h
          subst hw
          exact hret _ _ _ _ _ zd241_92 (by constructor <;> decide) ⟨rfl, rfl, rfl⟩
      · rw [if_neg hc9] at h
        refine zv_con hB zd241_80 rfl ?_
        have hw := Option.some.inj h
        subst hw
        exact hret _ _ _ _ _ zd241_81 (by constructor <;> decide) ⟨rfl, rfl, rfl⟩
/-! M_seenFrom (I)I -/
-- names: 0 StarTalesModel('arg', 0), 1 (0, 422)(0, 12, 0), 2 (0, 14)(0, 12, 21), 3 (0, 13)(0, 12, 26), 4 (0, 14)(0, 12, 23), 5 (0, 14)(0, 12, 24), 6 (0, 220)(0, 12, 20), 7 (0, 220)(0, 12, 25)
-- fields: f0 = 0.clauses_; arrays: g0 = 1, g1 = 2, g2 = 3, g3 = 4, g4 = 5, g5 = 6, g6 = 7; out: [('ret', None), ('g', 2), ('g', 6)]
abbrev zy_M_seenFrom : zNL := (8, [(0, 12)], [(0, 12, 13, 0)], [(0, 12, 0, 1), (0, 12, 21, 2), (0, 12, 26, 3), (0, 12, 23, 4), (0, 12, 24, 5), (0, 12, 20, 6), (0, 12, 25, 7)], [(1, 0, 422, 0), (2, 0, 14, 1), (3, 0, 13, 2), (4, 0, 14, 3), (5, 0, 14, 4), (6, 0, 220, 5), (7, 0, 220, 6)])
theorem zyw_M_seenFrom : zv_wf zy_M_seenFrom = true := by decide +kernel
theorem zye_M_seenFrom : zv_ek2 zy_M_seenFrom = true := by decide +kernel
def zf_M_seenFrom_l0_b (x1 : Int) (f0 : Int) (g0 : (Int → Int)) (g1 : (Int → Int)) (g3 : (Int → Int)) (g4 : (Int → Int)) (g5 : (Int → Int)) (rec : Int → Int → (Int → Int) → (Int → Int) → Option (Int × (Int → Int) × (Int → Int))) (x2 : Int) (x3 : Int) (g2 : (Int → Int)) (g6 : (Int → Int)) : Option (Int × (Int → Int) × (Int → Int)) := if x3 < 24 then ((zf_M_isTold x3 g0).bind fun r2 => (if r2 = 0 then (rec x2 (zi_w (x3 + 1)) g2 g6) else ((zf_M_isSeen x1 x3 f0 g0 g1 g2 g3 g4 g5 g6).bind fun r4 => (if r4.1 = 0 then (rec x2 (zi_w (x3 + 1)) r4.2.1 r4.2.2) else (rec (zi_or x2 (zi_shl 1 x3)) (zi_w (x3 + 1)) r4.2.1 r4.2.2))))) else (some (x2, g2, g6))
def zf_M_seenFrom_l0 (x1 : Int) (f0 : Int) (g0 : (Int → Int)) (g1 : (Int → Int)) (g3 : (Int → Int)) (g4 : (Int → Int)) (g5 : (Int → Int)) : Nat → Int → Int → (Int → Int) → (Int → Int) → Option (Int × (Int → Int) × (Int → Int))
  | 0, _, _, _, _ => none
  | n + 1, x2, x3, g2, g6 => zf_M_seenFrom_l0_b x1 f0 g0 g1 g3 g4 g5 (zf_M_seenFrom_l0 x1 f0 g0 g1 g3 g4 g5 n) x2 x3 g2 g6
def zf_M_seenFrom (x1 : Int) (f0 : Int) (g0 : (Int → Int)) (g1 : (Int → Int)) (g2 : (Int → Int)) (g3 : (Int → Int)) (g4 : (Int → Int)) (g5 : (Int → Int)) (g6 : (Int → Int)) : Option (Int × (Int → Int) × (Int → Int)) := (zf_M_seenFrom_l0 x1 f0 g0 g1 g3 g4 g5 zi_fu 0 0 g2 g6).bind fun q6 => (some (q6.1, q6.2.1, q6.2.2))
theorem zd240_0 : decode zxm240.2.1 0 = .ok (.iconst 0, 1) := by decide +kernel
theorem zd240_1 : decode zxm240.2.1 1 = .ok (.istore_n 2, 1) := by decide +kernel
theorem zd240_2 : decode zxm240.2.1 2 = .ok (.iconst 0, 1) := by decide +kernel
theorem zd240_3 : decode zxm240.2.1 3 = .ok (.istore_n 3, 1) := by decide +kernel
theorem zd240_4 : decode zxm240.2.1 4 = .ok (.iload_n 3, 1) := by decide +kernel
theorem zd240_5 : decode zxm240.2.1 5 = .ok (.bipush 24, 2) := by decide +kernel
theorem zd240_7 : decode zxm240.2.1 7 = .ok (.if_icmp .ge 32, 3) := by decide +kernel
theorem zd240_10 : decode zxm240.2.1 10 = .ok (.aload_n 0, 1) := by decide +kernel
theorem zd240_11 : decode zxm240.2.1 11 = .ok (.iload_n 3, 1) := by decide +kernel
theorem zd240_12 : decode zxm240.2.1 12 = .ok (.invokevirtual 157, 3) := by decide +kernel
theorem zd240_15 : decode zxm240.2.1 15 = .ok (.ifCond .eq 18, 3) := by decide +kernel
theorem zd240_18 : decode zxm240.2.1 18 = .ok (.aload_n 0, 1) := by decide +kernel
theorem zd240_19 : decode zxm240.2.1 19 = .ok (.iload_n 1, 1) := by decide +kernel
theorem zd240_20 : decode zxm240.2.1 20 = .ok (.iload_n 3, 1) := by decide +kernel
theorem zd240_21 : decode zxm240.2.1 21 = .ok (.invokevirtual 297, 3) := by decide +kernel
theorem zd240_24 : decode zxm240.2.1 24 = .ok (.ifCond .eq 9, 3) := by decide +kernel
theorem zd240_27 : decode zxm240.2.1 27 = .ok (.iload_n 2, 1) := by decide +kernel
theorem zd240_28 : decode zxm240.2.1 28 = .ok (.iconst 1, 1) := by decide +kernel
theorem zd240_29 : decode zxm240.2.1 29 = .ok (.iload_n 3, 1) := by decide +kernel
theorem zd240_30 : decode zxm240.2.1 30 = .ok (.ishl, 1) := by decide +kernel
theorem zd240_31 : decode zxm240.2.1 31 = .ok (.ior, 1) := by decide +kernel
theorem zd240_32 : decode zxm240.2.1 32 = .ok (.istore_n 2, 1) := by decide +kernel
theorem zd240_33 : decode zxm240.2.1 33 = .ok (.iinc 3 1, 3) := by decide +kernel
theorem zd240_36 : decode zxm240.2.1 36 = .ok (.goto (-32), 3) := by decide +kernel
theorem zd240_39 : decode zxm240.2.1 39 = .ok (.iload_n 2, 1) := by decide +kernel
theorem zd240_40 : decode zxm240.2.1 40 = .ok (.ireturn, 1) := by decide +kernel
theorem zt_M_seenFrom {x1 : Int} {f0 : Int} {g0 : (Int → Int)} {g1 : (Int → Int)} {g2 : (Int → Int)} {g3 : (Int → Int)} {g4 : (Int → Int)} {g5 : (Int → Int)} {g6 : (Int → Int)} {o : Int × (Int → Int) × (Int → Int)} (h : zf_M_seenFrom x1 f0 g0 g1 g2 g3 g4 g5 g6 = some o) : zv_Fn z_TB z_cl z_KX zy_M_seenFrom zxm240 (4, 240) [.inr 0, .inl x1] [.inl f0] [g0, g1, g2, g3, g4, g5, g6] (some o.1) [.inl f0] [g0, g1, o.2.1, g3, g4, g5, o.2.2] := zv_meth (K := (z_KF13, z_KC13, z_KL13, z_KT13, [], [], [], none)) (FT := z_FT) (MT := z_MT) (n := 2) zxp240 (z_ks13 _ (fun _ h => List.mem_cons_of_mem _ h) _ _ _ _ (fun j r h _ => by cases h)) (fun _ _ => zs_KX_p) zyw_M_seenFrom (fun va F G h => by obtain ⟨rfl, _⟩ := h; rfl) (fun va F G h => by obtain ⟨rfl, _⟩ := h; rfl) rfl fun good va F G hB hret hvret hP => by
  obtain ⟨rfl, rfl, rfl⟩ := hP
  have l0 : ∀ (n : Nat) (x1 : Int) (x2 : Int) (x3 : Int) (g2 : (Int → Int)) (g6 : (Int → Int)) (q : Int × (Int → Int) × (Int → Int)), zf_M_seenFrom_l0 x1 f0 g0 g1 g3 g4 g5 n x2 x3 g2 g6 = some q → (good 39 [.inr 1000, .inr 1000, .inl q.1, .inr 1000] [] [.inl f0] [g0, g1, q.2.1, g3, g4, g5, q.2.2]) → good 4 [.inr 0, .inl x1, .inl x2, .inl x3] [] [.inl f0] [g0, g1, g2, g3, g4, g5, g6] := by
    intro n
    induction n with
    | zero => intro x1 x2 x3 g2 g6 q h; exact absurd (show none = some q from h) (fun h => by cases h)
    | succ n ih =>
      intro x1 x2 x3 g2 g6 q h hK
      replace h : zf_M_seenFrom_l0_b x1 f0 g0 g1 g3 g4 g5 (zf_M_seenFrom_l0 x1 f0 g0 g1 g3 g4 g5 n) x2 x3 g2 g6 = some q := h
      unfold zf_M_seenFrom_l0_b at h
      refine zv_ild hB zd240_4 rfl rfl ?_
      refine zv_con hB zd240_5 rfl ?_
      refine zv_cge hB zd240_7 rfl (fun hc1 => ?_) (fun hc1 => ?_)
      · rw [if_neg (Int.not_lt.mpr hc1)] at h
        have hq := Option.some.inj h
        subst hq
        refine zv_wk hB (L' := [.inr 1000, .inr 1000, .inl x2, .inr 1000]) (F' := [.inl f0]) ⟨fun (h : zv_is (.inr 1000)) => (Nat.lt_irrefl 1000 h).elim, fun (h : zv_is (.inr 1000)) => (Nat.lt_irrefl 1000 h).elim, fun _ => rfl, fun (h : zv_is (.inr 1000)) => (Nat.lt_irrefl 1000 h).elim, trivial⟩ ⟨fun _ => rfl, trivial⟩ ?_
        exact hK
      · rw [if_pos hc1] at h
        refine zv_ald hB zd240_10 rfl rfl rfl ?_
        refine zv_ild hB zd240_11 rfl rfl ?_
        obtain ⟨r2, hr2, h⟩ := zi_bind h
        refine zv_cv hB (zv_emq (va2 := [.inr 0, .inl x3]) (F := [.inl f0]) (F' := [.inl f0]) (G := [g0, g1, g2, g3, g4, g5, g6]) (G' := [g0, g1, g2, g3, g4, g5, g6]) (ρ := [0, 1]) (φ := []) (ψ := [0]) [none] [some 0, none, none, none, none, none, none] zyw_M_isTold zyw_M_seenFrom zye_M_seenFrom (by decide +kernel) (zt_M_isTold hr2) trivial ⟨rfl, trivial⟩ rfl rfl rfl rfl rfl rfl rfl) zd240_12 zxt203 rfl (by decide) (by decide) rfl ?_
        refine zv_zeq hB zd240_15 rfl (fun hc3 => ?_) (fun hc3 => ?_)
        · rw [if_pos hc3] at h
          refine zv_iincw hB zd240_33 rfl rfl ?_
          refine zv_goto hB zd240_36 rfl ?_
          exact ih _ _ _ _ _ q h hK
        · rw [if_neg hc3] at h
          refine zv_ald hB zd240_18 rfl rfl rfl ?_
          refine zv_ild hB zd240_19 rfl rfl ?_
          refine zv_ild hB zd240_20 rfl rfl ?_
          obtain ⟨r4, hr4, h⟩ := zi_bind h
          refine zv_cv hB (zv_emq (va2 := [.inr 0, .inl x1, .inl x3]) (F := [.inl f0]) (F' := [.inl f0]) (G := [g0, g1, g2, g3, g4, g5, g6]) (G' := [g0, g1, r4.2.1, g3, g4, g5, r4.2.2]) (ρ := [0, 1, 2, 3, 4, 5, 6, 7]) (φ := [0]) (ψ := [0, 1, 2, 3, 4, 5, 6]) [some 0] [some 0, some 1, some 2, some 3, some 4, some 5, some 6] zyw_M_isSeen zyw_M_seenFrom zye_M_seenFrom (by decide +kernel) (zt_M_isSeen hr4) ⟨⟨_, rfl, fun _ => rfl⟩, trivial⟩ ⟨rfl, rfl, rfl, rfl, rfl, rfl, rfl, trivial⟩ rfl rfl rfl rfl rfl rfl rfl) zd240_21 zxt241 rfl (by decide) (by decide) rfl ?_
          refine zv_zeq hB zd240_24 rfl (fun hc5 => ?_) (fun hc5 => ?_)
          · rw [if_pos hc5] at h
            refine zv_iincw hB zd240_33 rfl rfl ?_
            refine zv_goto hB zd240_36 rfl ?_
            exact ih _ _ _ _ _ q h hK
          · rw [if_neg hc5] at h
            refine zv_ild hB zd240_27 rfl rfl ?_
            refine zv_con hB zd240_28 rfl ?_
            refine zv_ild hB zd240_29 rfl rfl ?_
            refine zv_shlw hB zd240_30 ?_
            refine zv_orw hB zd240_31 ?_
            refine zv_ist hB zd240_32 rfl rfl rfl ?_
            refine zv_iincw hB zd240_33 rfl rfl ?_
            refine zv_goto hB zd240_36 rfl ?_
            exact ih _ _ _ _ _ q h hK
  unfold zf_M_seenFrom at h
  refine zv_con hB zd240_0 rfl ?_
  refine zv_ist hB zd240_1 rfl rfl rfl ?_
  refine zv_con hB zd240_2 rfl ?_
  refine zv_ist hB zd240_3 rfl rfl rfl ?_
  obtain ⟨q6, hq6, h⟩ := zi_bind h
  refine l0 _ _ _ _ _ _ q6 hq6 ?_
  show good 39 [.inr 1000, .inr 1000, .inl q6.1, .inr 1000] [] [.inl f0] [g0, g1, q6.2.1, g3, g4, g5, q6.2.2]
  refine zv_ild hB zd240_39 rfl rfl ?_
  have hw := Option.some.inj h
  subst hw
  exact hret _ _ _ _ _ zd240_40 (by trivial) ⟨rfl, rfl, rfl⟩
/-! M_seen (II)I -/
-- names: 0 StarTalesModel('arg', 0), 1 (0, 422)(0, 12, 0), 2 (0, 14)(0, 12, 21), 3 (0, 13)(0, 12, 26), 4 (0, 14)(0, 12, 23), 5 (0, 14)(0, 12, 24), 6 (0, 220)(0, 12, 20), 7 (0, 220)(0, 12, 25)
-- fields: f0 = 0.clauses_; arrays: g0 = 1, g1 = 2, g2 = 3, g3 = 4, g4 = 5, g5 = 6, g6 = 7; out: [('ret', None), ('g', 2), ('g', 6)]
abbrev zy_M_seen : zNL := (8, [(0, 12)], [(0, 12, 13, 0)], [(0, 12, 0, 1), (0, 12, 21, 2), (0, 12, 26, 3), (0, 12, 23, 4), (0, 12, 24, 5), (0, 12, 20, 6), (0, 12, 25, 7)], [(1, 0, 422, 0), (2, 0, 14, 1), (3, 0, 13, 2), (4, 0, 14, 3), (5, 0, 14, 4), (6, 0, 220, 5), (7, 0, 220, 6)])
theorem zyw_M_seen : zv_wf zy_M_seen = true := by decide +kernel
theorem zye_M_seen : zv_ek2 zy_M_seen = true := by decide +kernel
def zf_M_seen (x1 : Int) (x2 : Int) (f0 : Int) (g0 : (Int → Int)) (g1 : (Int → Int)) (g2 : (Int → Int)) (g3 : (Int → Int)) (g4 : (Int → Int)) (g5 : (Int → Int)) (g6 : (Int → Int)) : Option (Int × (Int → Int) × (Int → Int)) := (zf_M_isPlace x1 x2).bind fun r1 => (if r1 = 0 then (some ((-1), g2, g6)) else ((zf_M_seenFrom (zi_w ((zi_w (24 * x2)) + x1)) f0 g0 g1 g2 g3 g4 g5 g6).bind fun r3 => (some (r3.1, r3.2.1, r3.2.2))))
theorem zd239_0 : decode zxm239.2.1 0 = .ok (.iload_n 1, 1) := by decide +kernel
theorem zd239_1 : decode zxm239.2.1 1 = .ok (.iload_n 2, 1) := by decide +kernel
theorem zd239_2 : decode zxm239.2.1 2 = .ok (.invokestatic 154, 3) := by decide +kernel
theorem zd239_5 : decode zxm239.2.1 5 = .ok (.ifCond .eq 16, 3) := by decide +kernel
theorem zd239_8 : decode zxm239.2.1 8 = .ok (.aload_n 0, 1) := by decide +kernel
theorem zd239_9 : decode zxm239.2.1 9 = .ok (.bipush 24, 2) := by decide +kernel
theorem zd239_11 : decode zxm239.2.1 11 = .ok (.iload_n 2, 1) := by decide +kernel
theorem zd239_12 : decode zxm239.2.1 12 = .ok (.imul, 1) := by decide +kernel
theorem zd239_13 : decode zxm239.2.1 13 = .ok (.iload_n 1, 1) := by decide +kernel
theorem zd239_14 : decode zxm239.2.1 14 = .ok (.iadd, 1) := by decide +kernel
theorem zd239_15 : decode zxm239.2.1 15 = .ok (.invokevirtual 300, 3) := by decide +kernel
theorem zd239_18 : decode zxm239.2.1 18 = .ok (.goto 4, 3) := by decide +kernel
theorem zd239_21 : decode zxm239.2.1 21 = .ok (.iconst (-1), 1) := by decide +kernel
theorem zd239_22 : decode zxm239.2.1 22 = .ok (.ireturn, 1) := by decide +kernel
theorem zt_M_seen {x1 : Int} {x2 : Int} {f0 : Int} {g0 : (Int → Int)} {g1 : (Int → Int)} {g2 : (Int → Int)} {g3 : (Int → Int)} {g4 : (Int → Int)} {g5 : (Int → Int)} {g6 : (Int → Int)} {o : Int × (Int → Int) × (Int → Int)} (h : zf_M_seen x1 x2 f0 g0 g1 g2 g3 g4 g5 g6 = some o) : zv_Fn z_TB z_cl z_KX zy_M_seen zxm239 (5, 300) [.inr 0, .inl x1, .inl x2] [.inl f0] [g0, g1, g2, g3, g4, g5, g6] (some o.1) [.inl f0] [g0, g1, o.2.1, g3, g4, g5, o.2.2] := zv_meth (K := (z_KF13, z_KC13, z_KL13, z_KT13, [], [], [], none)) (FT := z_FT) (MT := z_MT) (n := 3) zxp239 (z_ks13 _ (fun _ h => List.mem_cons_of_mem _ h) _ _ _ _ (fun j r h _ => by cases h)) (fun _ _ => zs_KX_p) zyw_M_seen (fun va F G h => by obtain ⟨rfl, _⟩ := h; rfl) (fun va F G h => by obtain ⟨rfl, _⟩ := h; rfl) rfl fun good va F G hB hret hvret hP => by
  obtain ⟨rfl, rfl, rfl⟩ := hP
  unfold zf_M_seen at h
  refine zv_ild hB zd239_0 rfl rfl ?_
  refine zv_ild hB zd239_1 rfl rfl ?_
  obtain ⟨r1, hr1, h⟩ := zi_bind h
  refine zv_cs hB (zv_emq (va2 := [.inl x1, .inl x2]) (F := [.inl f0]) (F' := [.inl f0]) (G := [g0, g1, g2, g3, g4, g5, g6]) (G' := [g0, g1, g2, g3, g4, g5, g6]) (ρ := []) (φ := []) (ψ := []) [none] [none, none, none, none, none, none, none] zyw_M_isPlace zyw_M_seen zye_M_seen (by decide +kernel) (zt_M_isPlace hr1) trivial trivial rfl rfl rfl rfl rfl rfl rfl) zd239_2 zxt201 rfl (by decide) (by decide) rfl ?_
  refine zv_zeq hB zd239_5 rfl (fun hc2 => ?_) (fun hc2 => ?_)
  · rw [if_pos hc2] at h
    refine zv_con hB zd239_21 rfl ?_
    have hw := Option.some.inj h
    subst hw
    exact hret _ _ _ _ _ zd239_22 (by trivial) ⟨rfl, rfl, rfl⟩
  · rw [if_neg hc2] at h
    refine zv_ald hB zd239_8 rfl rfl rfl ?_
    refine zv_con hB zd239_9 rfl ?_
    refine zv_ild hB zd239_11 rfl rfl ?_
    refine zv_mulw hB zd239_12 ?_
    refine zv_ild hB zd239_13 rfl rfl ?_
    refine zv_addw hB zd239_14 ?_
    obtain ⟨r3, hr3, h⟩ := zi_bind h
    refine zv_cv hB (zv_emq (va2 := [.inr 0, .inl (zi_w ((zi_w (24 * x2)) + x1))]) (F := [.inl f0]) (F' := [.inl f0]) (G := [g0, g1, g2, g3, g4, g5, g6]) (G' := [g0, g1, r3.2.1, g3, g4, g5, r3.2.2]) (ρ := [0, 1, 2, 3, 4, 5, 6, 7]) (φ := [0]) (ψ := [0, 1, 2, 3, 4, 5, 6]) [some 0] [some 0, some 1, some 2, some 3, some 4, some 5, some 6] zyw_M_seenFrom zyw_M_seen zye_M_seen (by decide +kernel) (zt_M_seenFrom hr3) ⟨⟨_, rfl, fun _ => rfl⟩, trivial⟩ ⟨rfl, rfl, rfl, rfl, rfl, rfl, rfl, trivial⟩ rfl rfl rfl rfl rfl rfl rfl) zd239_15 zxt240 rfl (by decide) (by decide) rfl ?_
    refine zv_goto hB zd239_18 rfl ?_
    have hw := Option.some.inj h
    subst hw
    exact hret _ _ _ _ _ zd239_22 (by trivial) ⟨rfl, rfl, rfl⟩
/-! M_isDrawn (III)Z -/
-- names: 0 StarTalesModel('arg', 0), 1 (0, 13)(0, 12, 26), 2 (0, 422)(0, 12, 0), 3 (0, 14)(0, 12, 21), 4 (0, 14)(0, 12, 23), 5 (0, 14)(0, 12, 24), 6 (0, 220)(0, 12, 20), 7 (0, 220)(0, 12, 25)
-- fields: f0 = 0.clauses_; arrays: g0 = 1, g1 = 2, g2 = 3, g3 = 4, g4 = 5, g5 = 6, g6 = 7; out: [('ret', None), ('g', 0), ('g', 6)]
abbrev zy_M_isDrawn : zNL := (8, [(0, 12)], [(0, 12, 13, 0)], [(0, 12, 26, 1), (0, 12, 0, 2), (0, 12, 21, 3), (0, 12, 23, 4), (0, 12, 24, 5), (0, 12, 20, 6), (0, 12, 25, 7)], [(1, 0, 13, 0), (2, 0, 422, 1), (3, 0, 14, 2), (4, 0, 14, 3), (5, 0, 14, 4), (6, 0, 220, 5), (7, 0, 220, 6)])
theorem zyw_M_isDrawn : zv_wf zy_M_isDrawn = true := by decide +kernel
theorem zye_M_isDrawn : zv_ek2 zy_M_isDrawn = true := by decide +kernel
def zf_M_isDrawn (x1 : Int) (x2 : Int) (x3 : Int) (f0 : Int) (g0 : (Int → Int)) (g1 : (Int → Int)) (g2 : (Int → Int)) (g3 : (Int → Int)) (g4 : (Int → Int)) (g5 : (Int → Int)) (g6 : (Int → Int)) : Option (Int × (Int → Int) × (Int → Int)) := (zf_M_feelsStar x2 g0 g1).bind fun r1 => (cond (zi_ix (zi_w (48 + x3)) 422) (cond (zi_ix (zi_w (24 + x3)) 422) ((zf_M_standsAt x3 g1).bind fun r4 => ((zf_M_standsAt x2 g1).bind fun r5 => (cond (zi_ix (zi_w (24 + x2)) 422) ((zf_M_standsAt x3 g1).bind fun r7 => ((zf_M_way r5 (g1 (zi_w (24 + x2))) r7 (g1 (zi_w (24 + x3)))).bind fun r8 => ((zf_M_anyOf 106 f0 g2 g3 g4 g5 g6 (zv_up (zv_up (zv_up (zv_up (zv_up (zv_up (zv_up r1 6 x3) 7 (g1 (zi_w (48 + x3)))) 8 (g1 (zi_w (24 + x3)))) 9 r4) 10 (zi_rem x1 24)) 11 (zi_div x1 24)) 12 r8)).bind fun r9 => (cond (zi_bo r9.1) (some (r9.1, (zv_up (zv_up (zv_up (zv_up (zv_up (zv_up (zv_up r1 6 x3) 7 (g1 (zi_w (48 + x3)))) 8 (g1 (zi_w (24 + x3)))) 9 r4) 10 (zi_rem x1 24)) 11 (zi_div x1 24)) 12 r8), r9.2)) none)))) none))) none) none)
theorem zd253_0 : decode zxm253.2.1 0 = .ok (.aload_n 0, 1) := by decide +kernel
theorem zd253_1 : decode zxm253.2.1 1 = .ok (.iload_n 2, 1) := by decide +kernel
theorem zd253_2 : decode zxm253.2.1 2 = .ok (.invokevirtual 287, 3) := by decide +kernel
theorem zd253_5 : decode zxm253.2.1 5 = .ok (.aload_n 0, 1) := by decide +kernel
theorem zd253_6 : decode zxm253.2.1 6 = .ok (.getfield 59, 3) := by decide +kernel
theorem zd253_9 : decode zxm253.2.1 9 = .ok (.bipush 6, 2) := by decide +kernel
theorem zd253_11 : decode zxm253.2.1 11 = .ok (.iload_n 3, 1) := by decide +kernel
theorem zd253_12 : decode zxm253.2.1 12 = .ok (.iastore, 1) := by decide +kernel
theorem zd253_13 : decode zxm253.2.1 13 = .ok (.aload_n 0, 1) := by decide +kernel
theorem zd253_14 : decode zxm253.2.1 14 = .ok (.getfield 59, 3) := by decide +kernel
theorem zd253_17 : decode zxm253.2.1 17 = .ok (.bipush 7, 2) := by decide +kernel
theorem zd253_19 : decode zxm253.2.1 19 = .ok (.aload_n 0, 1) := by decide +kernel
theorem zd253_20 : decode zxm253.2.1 20 = .ok (.getfield 7, 3) := by decide +kernel
theorem zd253_23 : decode zxm253.2.1 23 = .ok (.bipush 48, 2) := by decide +kernel
theorem zd253_25 : decode zxm253.2.1 25 = .ok (.iload_n 3, 1) := by decide +kernel
theorem zd253_26 : decode zxm253.2.1 26 = .ok (.iadd, 1) := by decide +kernel
theorem zd253_27 : decode zxm253.2.1 27 = .ok (.iaload, 1) := by decide +kernel
theorem zd253_28 : decode zxm253.2.1 28 = .ok (.iastore, 1) := by decide +kernel
theorem zd253_29 : decode zxm253.2.1 29 = .ok (.aload_n 0, 1) := by decide +kernel
theorem zd253_30 : decode zxm253.2.1 30 = .ok (.getfield 59, 3) := by decide +kernel
theorem zd253_33 : decode zxm253.2.1 33 = .ok (.bipush 8, 2) := by decide +kernel
theorem zd253_35 : decode zxm253.2.1 35 = .ok (.aload_n 0, 1) := by decide +kernel
theorem zd253_36 : decode zxm253.2.1 36 = .ok (.getfield 7, 3) := by decide +kernel
theorem zd253_39 : decode zxm253.2.1 39 = .ok (.bipush 24, 2) := by decide +kernel
theorem zd253_41 : decode zxm253.2.1 41 = .ok (.iload_n 3, 1) := by decide +kernel
theorem zd253_42 : decode zxm253.2.1 42 = .ok (.iadd, 1) := by decide +kernel
theorem zd253_43 : decode zxm253.2.1 43 = .ok (.iaload, 1) := by decide +kernel
theorem zd253_44 : decode zxm253.2.1 44 = .ok (.iastore, 1) := by decide +kernel
theorem zd253_45 : decode zxm253.2.1 45 = .ok (.aload_n 0, 1) := by decide +kernel
theorem zd253_46 : decode zxm253.2.1 46 = .ok (.getfield 59, 3) := by decide +kernel
theorem zd253_49 : decode zxm253.2.1 49 = .ok (.bipush 9, 2) := by decide +kernel
theorem zd253_51 : decode zxm253.2.1 51 = .ok (.aload_n 0, 1) := by decide +kernel
theorem zd253_52 : decode zxm253.2.1 52 = .ok (.iload_n 3, 1) := by decide +kernel
theorem zd253_53 : decode zxm253.2.1 53 = .ok (.invokevirtual 281, 3) := by decide +kernel
theorem zd253_56 : decode zxm253.2.1 56 = .ok (.iastore, 1) := by decide +kernel
theorem zd253_57 : decode zxm253.2.1 57 = .ok (.aload_n 0, 1) := by decide +kernel
theorem zd253_58 : decode zxm253.2.1 58 = .ok (.getfield 59, 3) := by decide +kernel
theorem zd253_61 : decode zxm253.2.1 61 = .ok (.bipush 10, 2) := by decide +kernel
theorem zd253_63 : decode zxm253.2.1 63 = .ok (.iload_n 1, 1) := by decide +kernel
theorem zd253_64 : decode zxm253.2.1 64 = .ok (.bipush 24, 2) := by decide +kernel
theorem zd253_66 : decode zxm253.2.1 66 = .ok (.irem, 1) := by decide +kernel
theorem zd253_67 : decode zxm253.2.1 67 = .ok (.iastore, 1) := by decide +kernel
theorem zd253_68 : decode zxm253.2.1 68 = .ok (.aload_n 0, 1) := by decide +kernel
theorem zd253_69 : decode zxm253.2.1 69 = .ok (.getfield 59, 3) := by decide +kernel
theorem zd253_72 : decode zxm253.2.1 72 = .ok (.bipush 11, 2) := by decide +kernel
theorem zd253_74 : decode zxm253.2.1 74 = .ok (.iload_n 1, 1) := by decide +kernel
theorem zd253_75 : decode zxm253.2.1 75 = .ok (.bipush 24, 2) := by decide +kernel
theorem zd253_77 : decode zxm253.2.1 77 = .ok (.idiv, 1) := by decide +kernel
theorem zd253_78 : decode zxm253.2.1 78 = .ok (.iastore, 1) := by decide +kernel
theorem zd253_79 : decode zxm253.2.1 79 = .ok (.aload_n 0, 1) := by decide +kernel
theorem zd253_80 : decode zxm253.2.1 80 = .ok (.getfield 59, 3) := by decide +kernel
theorem zd253_83 : decode zxm253.2.1 83 = .ok (.bipush 12, 2) := by decide +kernel
theorem zd253_85 : decode zxm253.2.1 85 = .ok (.aload_n 0, 1) := by decide +kernel
theorem zd253_86 : decode zxm253.2.1 86 = .ok (.iload_n 2, 1) := by decide +kernel
theorem zd253_87 : decode zxm253.2.1 87 = .ok (.invokevirtual 281, 3) := by decide +kernel
theorem zd253_90 : decode zxm253.2.1 90 = .ok (.aload_n 0, 1) := by decide +kernel
theorem zd253_91 : decode zxm253.2.1 91 = .ok (.getfield 7, 3) := by decide +kernel
theorem zd253_94 : decode zxm253.2.1 94 = .ok (.bipush 24, 2) := by decide +kernel
theorem zd253_96 : decode zxm253.2.1 96 = .ok (.iload_n 2, 1) := by decide +kernel
theorem zd253_97 : decode zxm253.2.1 97 = .ok (.iadd, 1) := by decide +kernel
theorem zd253_98 : decode zxm253.2.1 98 = .ok (.iaload, 1) := by decide +kernel
theorem zd253_99 : decode zxm253.2.1 99 = .ok (.aload_n 0, 1) := by decide +kernel
theorem zd253_100 : decode zxm253.2.1 100 = .ok (.iload_n 3, 1) := by decide +kernel
theorem zd253_101 : decode zxm253.2.1 101 = .ok (.invokevirtual 281, 3) := by decide +kernel
theorem zd253_104 : decode zxm253.2.1 104 = .ok (.aload_n 0, 1) := by decide +kernel
theorem zd253_105 : decode zxm253.2.1 105 = .ok (.getfield 7, 3) := by decide +kernel
theorem zd253_108 : decode zxm253.2.1 108 = .ok (.bipush 24, 2) := by decide +kernel
theorem zd253_110 : decode zxm253.2.1 110 = .ok (.iload_n 3, 1) := by decide +kernel
theorem zd253_111 : decode zxm253.2.1 111 = .ok (.iadd, 1) := by decide +kernel
theorem zd253_112 : decode zxm253.2.1 112 = .ok (.iaload, 1) := by decide +kernel
theorem zd253_113 : decode zxm253.2.1 113 = .ok (.invokestatic 290, 3) := by decide +kernel
theorem zd253_116 : decode zxm253.2.1 116 = .ok (.iastore, 1) := by decide +kernel
theorem zd253_117 : decode zxm253.2.1 117 = .ok (.aload_n 0, 1) := by decide +kernel
theorem zd253_118 : decode zxm253.2.1 118 = .ok (.bipush 106, 2) := by decide +kernel
theorem zd253_120 : decode zxm253.2.1 120 = .ok (.invokevirtual 294, 3) := by decide +kernel
theorem zd253_123 : decode zxm253.2.1 123 = .ok (.ireturn, 1) := by decide +kernel
theorem zt_M_isDrawn {x1 : Int} {x2 : Int} {x3 : Int} {f0 : Int} {g0 : (Int → Int)} {g1 : (Int → Int)} {g2 : (Int → Int)} {g3 : (Int → Int)} {g4 : (Int → Int)} {g5 : (Int → Int)} {g6 : (Int → Int)} {o : Int × (Int → Int) × (Int → Int)} (h : zf_M_isDrawn x1 x2 x3 f0 g0 g1 g2 g3 g4 g5 g6 = some o) : zv_Fn z_TB z_cl z_KX zy_M_isDrawn zxm253 (3, 180) [.inr 0, .inl x1, .inl x2, .inl x3] [.inl f0] [g0, g1, g2, g3, g4, g5, g6] (some o.1) [.inl f0] [o.2.1, g1, g2, g3, g4, g5, o.2.2] := zv_meth (K := (z_KF13, z_KC13, z_KL13, z_KT13, [], [], [], none)) (FT := z_FT) (MT := z_MT) (n := 4) zxp253 (z_ks13 _ (fun _ h => List.mem_cons_of_mem _ h) _ _ _ _ (fun j r h _ => by cases h)) (fun _ _ => zs_KX_p) zyw_M_isDrawn (fun va F G h => by obtain ⟨rfl, _⟩ := h; rfl) (fun va F G h => by obtain ⟨rfl, _⟩ := h; rfl) rfl fun good va F G hB hret hvret hP => by
  obtain ⟨rfl, rfl, rfl⟩ := hP
  unfold zf_M_isDrawn at h
  refine zv_ald hB zd253_0 rfl rfl rfl ?_
  refine zv_ild hB zd253_1 rfl rfl ?_
  obtain ⟨r1, hr1, h⟩ := zi_bind h
  refine zv_cv hB (zv_emq (va2 := [.inr 0, .inl x2]) (F := [.inl f0]) (F' := [.inl f0]) (G := [g0, g1, g2, g3, g4, g5, g6]) (G' := [r1, g1, g2, g3, g4, g5, g6]) (ρ := [0, 1, 2]) (φ := []) (ψ := [0, 1]) [none] [some 0, some 1, none, none, none, none, none] zyw_M_feelsStar zyw_M_isDrawn zye_M_isDrawn (by decide +kernel) (zt_M_feelsStar hr1) trivial ⟨rfl, rfl, trivial⟩ rfl rfl rfl rfl rfl rfl rfl) zd253_2 zxt245 rfl (by decide) (by decide) rfl ?_
  refine zv_ald hB zd253_5 rfl rfl rfl ?_
  refine zv_getr hB zd253_6 rfl ?_
  refine zv_con hB zd253_9 rfl ?_
  refine zv_ild hB zd253_11 rfl rfl ?_
  refine zv_iast hB zd253_12 rfl rfl (by decide) (by decide) ?_
  refine zv_ald hB zd253_13 rfl rfl rfl ?_
  refine zv_getr hB zd253_14 rfl ?_
  refine zv_con hB zd253_17 rfl ?_
  refine zv_ald hB zd253_19 rfl rfl rfl ?_
  refine zv_getr hB zd253_20 rfl ?_
  refine zv_con hB zd253_23 rfl ?_
  refine zv_ild hB zd253_25 rfl rfl ?_
  refine zv_addw hB zd253_26 ?_
  obtain ⟨c2, h⟩ := zi_if h
  refine zv_iald hB zd253_27 rfl rfl (zi_ix_ok c2).1 (zi_ix_ok c2).2 (fun _ _ => ?_)
  refine zv_iast hB zd253_28 rfl rfl (by decide) (by decide) ?_
  refine zv_ald hB zd253_29 rfl rfl rfl ?_
  refine zv_getr hB zd253_30 rfl ?_
  refine zv_con hB zd253_33 rfl ?_
  refine zv_ald hB zd253_35 rfl rfl rfl ?_
  refine zv_getr hB zd253_36 rfl ?_
  refine zv_con hB zd253_39 rfl ?_
  refine zv_ild hB zd253_41 rfl rfl ?_
  refine zv_addw hB zd253_42 ?_
  obtain ⟨c3, h⟩ := zi_if h
  refine zv_iald hB zd253_43 rfl rfl (zi_ix_ok c3).1 (zi_ix_ok c3).2 (fun _ _ => ?_)
  refine zv_iast hB zd253_44 rfl rfl (by decide) (by decide) ?_
  refine zv_ald hB zd253_45 rfl rfl rfl ?_
  refine zv_getr hB zd253_46 rfl ?_
  refine zv_con hB zd253_49 rfl ?_
  refine zv_ald hB zd253_51 rfl rfl rfl ?_
  refine zv_ild hB zd253_52 rfl rfl ?_
  obtain ⟨r4, hr4, h⟩ := zi_bind h
  refine zv_cv hB (zv_emq (va2 := [.inr 0, .inl x3]) (F := [.inl f0]) (F' := [.inl f0]) (G := [(zv_up (zv_up (zv_up r1 6 x3) 7 (g1 (zi_w (48 + x3)))) 8 (g1 (zi_w (24 + x3)))), g1, g2, g3, g4, g5, g6]) (G' := [(zv_up (zv_up (zv_up r1 6 x3) 7 (g1 (zi_w (48 + x3)))) 8 (g1 (zi_w (24 + x3)))), g1, g2, g3, g4, g5, g6]) (ρ := [0, 2]) (φ := []) (ψ := [1]) [none] [none, some 0, none, none, none, none, none] zyw_M_standsAt zyw_M_isDrawn zye_M_isDrawn (by decide +kernel) (zt_M_standsAt hr4) trivial ⟨rfl, trivial⟩ rfl rfl rfl rfl rfl rfl rfl) zd253_53 zxt238 rfl (by decide) (by decide) rfl ?_
  refine zv_iast hB zd253_56 rfl rfl (by decide) (by decide) ?_
  refine zv_ald hB zd253_57 rfl rfl rfl ?_
  refine zv_getr hB zd253_58 rfl ?_
  refine zv_con hB zd253_61 rfl ?_
  refine zv_ild hB zd253_63 rfl rfl ?_
  refine zv_con hB zd253_64 rfl ?_
  refine zv_remw hB zd253_66 (by decide) ?_
  refine zv_iast hB zd253_67 rfl rfl (by decide) (by decide) ?_
  refine zv_ald hB zd253_68 rfl rfl rfl ?_
  refine zv_getr hB zd253_69 rfl ?_
  refine zv_con hB zd253_72 rfl ?_
  refine zv_ild hB zd253_74 rfl rfl ?_
  refine zv_con hB zd253_75 rfl ?_
  refine zv_divw hB zd253_77 (by decide) ?_
  refine zv_iast hB zd253_78 rfl rfl (by decide) (by decide) ?_
  refine zv_ald hB zd253_79 rfl rfl rfl ?_
  refine zv_getr hB zd253_80 rfl ?_
  refine zv_con hB zd253_83 rfl ?_
  refine zv_ald hB zd253_85 rfl rfl rfl ?_
  refine zv_ild hB zd253_86 rfl rfl ?_
  obtain ⟨r5, hr5, h⟩ := zi_bind h
  refine zv_cv hB (zv_emq (va2 := [.inr 0, .inl x2]) (F := [.inl f0]) (F' := [.inl f0]) (G := [(zv_up (zv_up (zv_up (zv_up (zv_up (zv_up r1 6 x3) 7 (g1 (zi_w (48 + x3)))) 8 (g1 (zi_w (24 + x3)))) 9 r4) 10 (zi_rem x1 24)) 11 (zi_div x1 24)), g1, g2, g3, g4, g5, g6]) (G' := [(zv_up (zv_up (zv_up (zv_up (zv_up (zv_up r1 6 x3) 7 (g1 (zi_w (48 + x3)))) 8 (g1 (zi_w (24 + x3)))) 9 r4) 10 (zi_rem x1 24)) 11 (zi_div x1 24)), g1, g2, g3, g4, g5, g6]) (ρ := [0, 2]) (φ := []) (ψ := [1]) [none] [none, some 0, none, none, none, none, none] zyw_M_standsAt zyw_M_isDrawn zye_M_isDrawn (by decide +kernel) (zt_M_standsAt hr5) trivial ⟨rfl, trivial⟩ rfl rfl rfl rfl rfl rfl rfl) zd253_87 zxt238 rfl (by decide) (by decide) rfl ?_
  refine zv_ald hB zd253_90 rfl rfl rfl ?_
  refine zv_getr hB zd253_91 rfl ?_
  refine zv_con hB zd253_94 rfl ?_
  refine zv_ild hB zd253_96 rfl rfl ?_
  refine zv_addw hB zd253_97 ?_
  obtain ⟨c6, h⟩ := zi_if h
  refine zv_iald hB zd253_98 rfl rfl (zi_ix_ok c6).1 (zi_ix_ok c6).2 (fun _ _ => ?_)
  refine zv_ald hB zd253_99 rfl rfl rfl ?_
  refine zv_ild hB zd253_100 rfl rfl ?_
  obtain ⟨r7, hr7, h⟩ := zi_bind h
  refine zv_cv hB (zv_emq (va2 := [.inr 0, .inl x3]) (F := [.inl f0]) (F' := [.inl f0]) (G := [(zv_up (zv_up (zv_up (zv_up (zv_up (zv_up r1 6 x3) 7 (g1 (zi_w (48 + x3)))) 8 (g1 (zi_w (24 + x3)))) 9 r4) 10 (zi_rem x1 24)) 11 (zi_div x1 24)), g1, g2, g3, g4, g5, g6]) (G' := [(zv_up (zv_up (zv_up (zv_up (zv_up (zv_up r1 6 x3) 7 (g1 (zi_w (48 + x3)))) 8 (g1 (zi_w (24 + x3)))) 9 r4) 10 (zi_rem x1 24)) 11 (zi_div x1 24)), g1, g2, g3, g4, g5, g6]) (ρ := [0, 2]) (φ := []) (ψ := [1]) [none] [none, some 0, none, none, none, none, none] zyw_M_standsAt zyw_M_isDrawn zye_M_isDrawn (by decide +kernel) (zt_M_standsAt hr7) trivial ⟨rfl, trivial⟩ rfl rfl rfl rfl rfl rfl rfl) zd253_101 zxt238 rfl (by decide) (by decide) rfl ?_
  refine zv_ald hB zd253_104 rfl rfl rfl ?_
  refine zv_getr hB zd253_105 rfl ?_
  refine zv_con hB zd253_108 rfl ?_
  refine zv_ild hB zd253_110 rfl rfl ?_
  refine zv_addw hB zd253_111 ?_
  refine zv_iald hB zd253_112 rfl rfl (zi_ix_ok c3).1 (zi_ix_ok c3).2 (fun _ _ => ?_)
  obtain ⟨r8, hr8, h⟩ := zi_bind h
  refine zv_cs hB (zv_emq (va2 := [.inl r5, .inl (g1 (zi_w (24 + x2))), .inl r7, .inl (g1 (zi_w (24 + x3)))]) (F := [.inl f0]) (F' := [.inl f0]) (G := [(zv_up (zv_up (zv_up (zv_up (zv_up (zv_up r1 6 x3) 7 (g1 (zi_w (48 + x3)))) 8 (g1 (zi_w (24 + x3)))) 9 r4) 10 (zi_rem x1 24)) 11 (zi_div x1 24)), g1, g2, g3, g4, g5, g6]) (G' := [(zv_up (zv_up (zv_up (zv_up (zv_up (zv_up r1 6 x3) 7 (g1 (zi_w (48 + x3)))) 8 (g1 (zi_w (24 + x3)))) 9 r4) 10 (zi_rem x1 24)) 11 (zi_div x1 24)), g1, g2, g3, g4, g5, g6]) (ρ := []) (φ := []) (ψ := []) [none] [none, none, none, none, none, none, none] zyw_M_way zyw_M_isDrawn zye_M_isDrawn (by decide +kernel) (zt_M_way hr8) trivial trivial rfl rfl rfl rfl rfl rfl rfl) zd253_113 zxt247 rfl (by decide) (by decide) rfl ?_
  refine zv_iast hB zd253_116 rfl rfl (by decide) (by decide) ?_
  refine zv_ald hB zd253_117 rfl rfl rfl ?_
  refine zv_con hB zd253_118 rfl ?_
  obtain ⟨r9, hr9, h⟩ := zi_bind h
  refine zv_cv hB (zv_emq (va2 := [.inr 0, .inl 106]) (F := [.inl f0]) (F' := [.inl f0]) (G := [(zv_up (zv_up (zv_up (zv_up (zv_up (zv_up (zv_up r1 6 x3) 7 (g1 (zi_w (48 + x3)))) 8 (g1 (zi_w (24 + x3)))) 9 r4) 10 (zi_rem x1 24)) 11 (zi_div x1 24)) 12 r8), g1, g2, g3, g4, g5, g6]) (G' := [(zv_up (zv_up (zv_up (zv_up (zv_up (zv_up (zv_up r1 6 x3) 7 (g1 (zi_w (48 + x3)))) 8 (g1 (zi_w (24 + x3)))) 9 r4) 10 (zi_rem x1 24)) 11 (zi_div x1 24)) 12 r8), g1, g2, g3, g4, g5, r9.2]) (ρ := [0, 3, 4, 5, 6, 7, 1]) (φ := [0]) (ψ := [2, 3, 4, 5, 6, 0]) [some 0] [some 5, none, some 0, some 1, some 2, some 3, some 4] zyw_M_anyOf zyw_M_isDrawn zye_M_isDrawn (by decide +kernel) (zt_M_anyOf hr9) ⟨⟨_, rfl, fun _ => rfl⟩, trivial⟩ ⟨rfl, rfl, rfl, rfl, rfl, rfl, trivial⟩ rfl rfl rfl rfl rfl rfl rfl) zd253_120 zxt248 rfl (by decide) (by decide) rfl ?_
  obtain ⟨c10, h⟩ := zi_if h
  have hw := Option.some.inj h
  subst hw
  exact hret _ _ _ _ _ zd253_123 (zi_bo_ok c10) ⟨rfl, rfl, rfl⟩
end
section
/-! Methods as functions, and that they do what these do. -/
/-! M_looks (I)V -/
-- names: 0 StarTalesModel('arg', 0), 1 (0, 422)(0, 12, 0), 2 (0, 14)(0, 12, 21), 3 (0, 13)(0, 12, 26), 4 (0, 14)(0, 12, 23), 5 (0, 14)(0, 12, 24), 6 (0, 220)(0, 12, 20), 7 (0, 220)(0, 12, 25), 8 (0, 24)(0, 12, 28)
-- fields: f0 = 0.clauses_, f1 = 0.seen0_; arrays: g0 = 1, g1 = 2, g2 = 3, g3 = 4, g4 = 5, g5 = 6, g6 = 7, g7 = 8; out: [('f', 1), ('g', 2), ('g', 6), ('g', 7)]
abbrev zy_M_looks : zNL := (9, [(0, 12)], [(0, 12, 13, 0), (0, 12, 27, 1)], [(0, 12, 0, 1), (0, 12, 21, 2), (0, 12, 26, 3), (0, 12, 23, 4), (0, 12, 24, 5), (0, 12, 20, 6), (0, 12, 25, 7), (0, 12, 28, 8)], [(1, 0, 422, 0), (2, 0, 14, 1), (3, 0, 13, 2), (4, 0, 14, 3), (5, 0, 14, 4), (6, 0, 220, 5), (7, 0, 220, 6), (8, 0, 24, 7)])
theorem zyw_M_looks : zv_wf zy_M_looks = true := by decide +kernel
theorem zye_M_looks : zv_ek2 zy_M_looks = true := by decide +kernel
def zf_M_looks_l0_b (rec : Int → (Int → Int) → Option ((Int → Int))) (x2 : Int) (g7 : (Int → Int)) : Option ((Int → Int)) := if x2 < 24 then (cond (zi_ix x2 24) (rec (zi_w (x2 + 1)) (zv_up g7 x2 0)) none) else (some g7)
def zf_M_looks_l0 : Nat → Int → (Int → Int) → Option ((Int → Int))
  | 0, _, _ => none
  | n + 1, x2, g7 => zf_M_looks_l0_b (zf_M_looks_l0 n) x2 g7
def zf_M_looks_l2_b (x1 : Int) (x2 : Int) (f0 : Int) (f1 : Int) (g0 : (Int → Int)) (g1 : (Int → Int)) (g3 : (Int → Int)) (g4 : (Int → Int)) (g5 : (Int → Int)) (rec : Int → (Int → Int) → (Int → Int) → (Int → Int) → Option ((Int → Int) × (Int → Int) × (Int → Int))) (x3 : Int) (g2 : (Int → Int)) (g6 : (Int → Int)) (g7 : (Int → Int)) : Option ((Int → Int) × (Int → Int) × (Int → Int)) := if x3 < 24 then ((zf_M_has f1 x2).bind fun r7 => (if r7 = 0 then (some (g2, g6, g7)) else ((zf_M_has f1 x3).bind fun r9 => (if r9 = 0 then (rec (zi_w (x3 + 1)) g2 g6 g7) else ((zf_M_isDrawn x1 x2 x3 f0 g2 g0 g1 g3 g4 g5 g6).bind fun r11 => (if r11.1 = 0 then (rec (zi_w (x3 + 1)) r11.2.1 r11.2.2 g7) else (cond (zi_ix x2 24) (cond (zi_ix x3 24) (rec (zi_w (x3 + 1)) r11.2.1 r11.2.2 (zv_up (zv_up g7 x2 (zi_or (g7 x2) (zi_shl 1 x3))) x3 (zi_or ((zv_up g7 x2 (zi_or (g7 x2) (zi_shl 1 x3))) x3) (zi_shl 1 x2)))) none) none))))))) else (some (g2, g6, g7))
def zf_M_looks_l2 (x1 : Int) (x2 : Int) (f0 : Int) (f1 : Int) (g0 : (Int → Int)) (g1 : (Int → Int)) (g3 : (Int → Int)) (g4 : (Int → Int)) (g5 : (Int → Int)) : Nat → Int → (Int → Int) → (Int → Int) → (Int → Int) → Option ((Int → Int) × (Int → Int) × (Int → Int))
  | 0, _, _, _, _ => none
  | n + 1, x3, g2, g6, g7 => zf_M_looks_l2_b x1 x2 f0 f1 g0 g1 g3 g4 g5 (zf_M_looks_l2 x1 x2 f0 f1 g0 g1 g3 g4 g5 n) x3 g2 g6 g7
def zf_M_looks_l1_b (x1 : Int) (f0 : Int) (f1 : Int) (g0 : (Int → Int)) (g1 : (Int → Int)) (g3 : (Int → Int)) (g4 : (Int → Int)) (g5 : (Int → Int)) (rec : Int → (Int → Int) → (Int → Int) → (Int → Int) → Option ((Int → Int) × (Int → Int) × (Int → Int))) (x2 : Int) (g2 : (Int → Int)) (g6 : (Int → Int)) (g7 : (Int → Int)) : Option ((Int → Int) × (Int → Int) × (Int → Int)) := if x2 < 24 then ((zf_M_looks_l2 x1 x2 f0 f1 g0 g1 g3 g4 g5 zi_fu (zi_w (x2 + 1)) g2 g6 g7).bind fun q15 => (rec (zi_w (x2 + 1)) q15.1 q15.2.1 q15.2.2)) else (some (g2, g6, g7))
def zf_M_looks_l1 (x1 : Int) (f0 : Int) (f1 : Int) (g0 : (Int → Int)) (g1 : (Int → Int)) (g3 : (Int → Int)) (g4 : (Int → Int)) (g5 : (Int → Int)) : Nat → Int → (Int → Int) → (Int → Int) → (Int → Int) → Option ((Int → Int) × (Int → Int) × (Int → Int))
  | 0, _, _, _, _ => none
  | n + 1, x2, g2, g6, g7 => zf_M_looks_l1_b x1 f0 f1 g0 g1 g3 g4 g5 (zf_M_looks_l1 x1 f0 f1 g0 g1 g3 g4 g5 n) x2 g2 g6 g7
def zf_M_looks (x1 : Int) (f0 : Int) (f1 : Int) (g0 : (Int → Int)) (g1 : (Int → Int)) (g2 : (Int → Int)) (g3 : (Int → Int)) (g4 : (Int → Int)) (g5 : (Int → Int)) (g6 : (Int → Int)) (g7 : (Int → Int)) : Option (Int × (Int → Int) × (Int → Int) × (Int → Int)) := (zf_M_seenFrom x1 f0 g0 g1 g2 g3 g4 g5 g6).bind fun r1 => ((zf_M_looks_l0 zi_fu 0 g7).bind fun q4 => ((zf_M_looks_l1 x1 f0 r1.1 g0 g1 g3 g4 g5 zi_fu 0 r1.2.1 r1.2.2 q4).bind fun q16 => (some (r1.1, q16.1, q16.2.1, q16.2.2))))
theorem zd252_0 : decode zxm252.2.1 0 = .ok (.aload_n 0, 1) := by decide +kernel
theorem zd252_1 : decode zxm252.2.1 1 = .ok (.aload_n 0, 1) := by decide +kernel
theorem zd252_2 : decode zxm252.2.1 2 = .ok (.iload_n 1, 1) := by decide +kernel
theorem zd252_3 : decode zxm252.2.1 3 = .ok (.invokevirtual 300, 3) := by decide +kernel
theorem zd252_6 : decode zxm252.2.1 6 = .ok (.putfield 303, 3) := by decide +kernel
theorem zd252_9 : decode zxm252.2.1 9 = .ok (.iconst 0, 1) := by decide +kernel
theorem zd252_10 : decode zxm252.2.1 10 = .ok (.istore_n 2, 1) := by decide +kernel
theorem zd252_11 : decode zxm252.2.1 11 = .ok (.iload_n 2, 1) := by decide +kernel
theorem zd252_12 : decode zxm252.2.1 12 = .ok (.bipush 24, 2) := by decide +kernel
theorem zd252_14 : decode zxm252.2.1 14 = .ok (.if_icmp .ge 16, 3) := by decide +kernel
theorem zd252_17 : decode zxm252.2.1 17 = .ok (.aload_n 0, 1) := by decide +kernel
theorem zd252_18 : decode zxm252.2.1 18 = .ok (.getfield 62, 3) := by decide +kernel
theorem zd252_21 : decode zxm252.2.1 21 = .ok (.iload_n 2, 1) := by decide +kernel
theorem zd252_22 : decode zxm252.2.1 22 = .ok (.iconst 0, 1) := by decide +kernel
theorem zd252_23 : decode zxm252.2.1 23 = .ok (.iastore, 1) := by decide +kernel
theorem zd252_24 : decode zxm252.2.1 24 = .ok (.iinc 2 1, 3) := by decide +kernel
theorem zd252_27 : decode zxm252.2.1 27 = .ok (.goto (-16), 3) := by decide +kernel
theorem zd252_30 : decode zxm252.2.1 30 = .ok (.iconst 0, 1) := by decide +kernel
theorem zd252_31 : decode zxm252.2.1 31 = .ok (.istore_n 2, 1) := by decide +kernel
theorem zd252_32 : decode zxm252.2.1 32 = .ok (.iload_n 2, 1) := by decide +kernel
theorem zd252_33 : decode zxm252.2.1 33 = .ok (.bipush 24, 2) := by decide +kernel
theorem zd252_35 : decode zxm252.2.1 35 = .ok (.if_icmp .ge 92, 3) := by decide +kernel
theorem zd252_38 : decode zxm252.2.1 38 = .ok (.iload_n 2, 1) := by decide +kernel
theorem zd252_39 : decode zxm252.2.1 39 = .ok (.iconst 1, 1) := by decide +kernel
theorem zd252_40 : decode zxm252.2.1 40 = .ok (.iadd, 1) := by decide +kernel
theorem zd252_41 : decode zxm252.2.1 41 = .ok (.istore_n 3, 1) := by decide +kernel
theorem zd252_42 : decode zxm252.2.1 42 = .ok (.iload_n 3, 1) := by decide +kernel
theorem zd252_43 : decode zxm252.2.1 43 = .ok (.bipush 24, 2) := by decide +kernel
theorem zd252_45 : decode zxm252.2.1 45 = .ok (.if_icmp .ge 76, 3) := by decide +kernel
theorem zd252_48 : decode zxm252.2.1 48 = .ok (.aload_n 0, 1) := by decide +kernel
theorem zd252_49 : decode zxm252.2.1 49 = .ok (.getfield 303, 3) := by decide +kernel
theorem zd252_52 : decode zxm252.2.1 52 = .ok (.iload_n 2, 1) := by decide +kernel
theorem zd252_53 : decode zxm252.2.1 53 = .ok (.invokestatic 138, 3) := by decide +kernel
theorem zd252_56 : decode zxm252.2.1 56 = .ok (.ifCond .eq 65, 3) := by decide +kernel
theorem zd252_59 : decode zxm252.2.1 59 = .ok (.aload_n 0, 1) := by decide +kernel
theorem zd252_60 : decode zxm252.2.1 60 = .ok (.getfield 303, 3) := by decide +kernel
theorem zd252_63 : decode zxm252.2.1 63 = .ok (.iload_n 3, 1) := by decide +kernel
theorem zd252_64 : decode zxm252.2.1 64 = .ok (.invokestatic 138, 3) := by decide +kernel
theorem zd252_67 : decode zxm252.2.1 67 = .ok (.ifCond .eq 48, 3) := by decide +kernel
theorem zd252_70 : decode zxm252.2.1 70 = .ok (.aload_n 0, 1) := by decide +kernel
theorem zd252_71 : decode zxm252.2.1 71 = .ok (.iload_n 1, 1) := by decide +kernel
theorem zd252_72 : decode zxm252.2.1 72 = .ok (.iload_n 2, 1) := by decide +kernel
theorem zd252_73 : decode zxm252.2.1 73 = .ok (.iload_n 3, 1) := by decide +kernel
theorem zd252_74 : decode zxm252.2.1 74 = .ok (.invokevirtual 306, 3) := by decide +kernel
theorem zd252_77 : decode zxm252.2.1 77 = .ok (.ifCond .ne 6, 3) := by decide +kernel
theorem zd252_80 : decode zxm252.2.1 80 = .ok (.goto 35, 3) := by decide +kernel
theorem zd252_83 : decode zxm252.2.1 83 = .ok (.aload_n 0, 1) := by decide +kernel
theorem zd252_84 : decode zxm252.2.1 84 = .ok (.getfield 62, 3) := by decide +kernel
theorem zd252_87 : decode zxm252.2.1 87 = .ok (.iload_n 2, 1) := by decide +kernel
theorem zd252_88 : decode zxm252.2.1 88 = .ok (.aload_n 0, 1) := by decide +kernel
theorem zd252_89 : decode zxm252.2.1 89 = .ok (.getfield 62, 3) := by decide +kernel
theorem zd252_92 : decode zxm252.2.1 92 = .ok (.iload_n 2, 1) := by decide +kernel
theorem zd252_93 : decode zxm252.2.1 93 = .ok (.iaload, 1) := by decide +kernel
theorem zd252_94 : decode zxm252.2.1 94 = .ok (.iconst 1, 1) := by decide +kernel
theorem zd252_95 : decode zxm252.2.1 95 = .ok (.iload_n 3, 1) := by decide +kernel
theorem zd252_96 : decode zxm252.2.1 96 = .ok (.ishl, 1) := by decide +kernel
theorem zd252_97 : decode zxm252.2.1 97 = .ok (.ior, 1) := by decide +kernel
theorem zd252_98 : decode zxm252.2.1 98 = .ok (.iastore, 1) := by decide +kernel
theorem zd252_99 : decode zxm252.2.1 99 = .ok (.aload_n 0, 1) := by decide +kernel
theorem zd252_100 : decode zxm252.2.1 100 = .ok (.getfield 62, 3) := by decide +kernel
theorem zd252_103 : decode zxm252.2.1 103 = .ok (.iload_n 3, 1) := by decide +kernel
theorem zd252_104 : decode zxm252.2.1 104 = .ok (.aload_n 0, 1) := by decide +kernel
theorem zd252_105 : decode zxm252.2.1 105 = .ok (.getfield 62, 3) := by decide +kernel
theorem zd252_108 : decode zxm252.2.1 108 = .ok (.iload_n 3, 1) := by decide +kernel
theorem zd252_109 : decode zxm252.2.1 109 = .ok (.iaload, 1) := by decide +kernel
theorem zd252_110 : decode zxm252.2.1 110 = .ok (.iconst 1, 1) := by decide +kernel
theorem zd252_111 : decode zxm252.2.1 111 = .ok (.iload_n 2, 1) := by decide +kernel
theorem zd252_112 : decode zxm252.2.1 112 = .ok (.ishl, 1) := by decide +kernel
theorem zd252_113 : decode zxm252.2.1 113 = .ok (.ior, 1) := by decide +kernel
theorem zd252_114 : decode zxm252.2.1 114 = .ok (.iastore, 1) := by decide +kernel
theorem zd252_115 : decode zxm252.2.1 115 = .ok (.iinc 3 1, 3) := by decide +kernel
theorem zd252_118 : decode zxm252.2.1 118 = .ok (.goto (-76), 3) := by decide +kernel
theorem zd252_121 : decode zxm252.2.1 121 = .ok (.iinc 2 1, 3) := by decide +kernel
theorem zd252_124 : decode zxm252.2.1 124 = .ok (.goto (-92), 3) := by decide +kernel
theorem zd252_127 : decode zxm252.2.1 127 = .ok (.return_, 1) := by decide +kernel
theorem zt_M_looks {x1 : Int} {f0 : Int} {f1 : Int} {g0 : (Int → Int)} {g1 : (Int → Int)} {g2 : (Int → Int)} {g3 : (Int → Int)} {g4 : (Int → Int)} {g5 : (Int → Int)} {g6 : (Int → Int)} {g7 : (Int → Int)} {o : Int × (Int → Int) × (Int → Int) × (Int → Int)} (h : zf_M_looks x1 f0 f1 g0 g1 g2 g3 g4 g5 g6 g7 = some o) : zv_Fn z_TB z_cl z_KX zy_M_looks zxm252 (5, 300) [.inr 0, .inl x1] [.inl f0, .inl f1] [g0, g1, g2, g3, g4, g5, g6, g7] none [.inl f0, .inl o.1] [g0, g1, o.2.1, g3, g4, g5, o.2.2.1, o.2.2.2] := zv_meth (K := (z_KF13, z_KC13, z_KL13, z_KT13, [], [], [], none)) (FT := z_FT) (MT := z_MT) (n := 2) zxp252 (z_ks13 _ (fun _ h => List.mem_cons_of_mem _ h) _ _ _ _ (fun j r h _ => by cases h)) (fun _ _ => zs_KX_p) zyw_M_looks (fun va F G h => by obtain ⟨rfl, _⟩ := h; rfl) (fun va F G h => by obtain ⟨rfl, _⟩ := h; rfl) rfl fun good va F G hB hret hvret hP => by
  obtain ⟨rfl, rfl, rfl⟩ := hP
  have l0 : ∀ (n : Nat) (x1 : Int) (x2 : Int) (f1 : Int) (g2 : (Int → Int)) (g6 : (Int → Int)) (g7 : (Int → Int)) (q : (Int → Int)), zf_M_looks_l0 n x2 g7 = some q → (good 30 [.inr 0, .inl x1, .inr 1000, .inr 1000] [] [.inl f0, .inl f1] [g0, g1, g2, g3, g4, g5, g6, q]) → good 11 [.inr 0, .inl x1, .inl x2, .inr 1000] [] [.inl f0, .inl f1] [g0, g1, g2, g3, g4, g5, g6, g7] := by
    intro n
    induction n with
    | zero => intro x1 x2 f1 g2 g6 g7 q h; exact absurd (show none = some q from h) (fun h => by cases h)
    | succ n ih =>
      intro x1 x2 f1 g2 g6 g7 q h hK
      replace h : zf_M_looks_l0_b (zf_M_looks_l0 n) x2 g7 = some q := h
      unfold zf_M_looks_l0_b at h
      refine zv_ild hB zd252_11 rfl rfl ?_
      refine zv_con hB zd252_12 rfl ?_
      refine zv_cge hB zd252_14 rfl (fun hc2 => ?_) (fun hc2 => ?_)
      · rw [if_neg (Int.not_lt.mpr hc2)] at h
        have hq := Option.some.inj h
        subst hq
        refine zv_wk hB (L' := [.inr 0, .inl x1, .inr 1000, .inr 1000]) (F' := [.inl f0, .inl f1]) ⟨fun _ => rfl, fun _ => rfl, fun (h : zv_is (.inr 1000)) => (Nat.lt_irrefl 1000 h).elim, fun (h : zv_is (.inr 1000)) => (Nat.lt_irrefl 1000 h).elim, trivial⟩ ⟨fun _ => rfl, fun _ => rfl, trivial⟩ ?_
        exact hK
      · rw [if_pos hc2] at h
        refine zv_ald hB zd252_17 rfl rfl rfl ?_
        refine zv_getr hB zd252_18 rfl ?_
        refine zv_ild hB zd252_21 rfl rfl ?_
        refine zv_con hB zd252_22 rfl ?_
        obtain ⟨c3, h⟩ := zi_if h
        refine zv_iast hB zd252_23 rfl rfl (zi_ix_ok c3).1 (zi_ix_ok c3).2 ?_
        refine zv_iincw hB zd252_24 rfl rfl ?_
        refine zv_goto hB zd252_27 rfl ?_
        exact ih _ _ _ _ _ _ q h hK
  have l2 : ∀ (n : Nat) (x1 : Int) (x2 : Int) (x3 : Int) (f1 : Int) (g2 : (Int → Int)) (g6 : (Int → Int)) (g7 : (Int → Int)) (q : (Int → Int) × (Int → Int) × (Int → Int)), zf_M_looks_l2 x1 x2 f0 f1 g0 g1 g3 g4 g5 n x3 g2 g6 g7 = some q → (good 121 [.inr 0, .inl x1, .inl x2, .inr 1000] [] [.inl f0, .inl f1] [g0, g1, q.1, g3, g4, g5, q.2.1, q.2.2]) → good 42 [.inr 0, .inl x1, .inl x2, .inl x3] [] [.inl f0, .inl f1] [g0, g1, g2, g3, g4, g5, g6, g7] := by
    intro n
    induction n with
    | zero => intro x1 x2 x3 f1 g2 g6 g7 q h; exact absurd (show none = some q from h) (fun h => by cases h)
    | succ n ih =>
      intro x1 x2 x3 f1 g2 g6 g7 q h hK
      replace h : zf_M_looks_l2_b x1 x2 f0 f1 g0 g1 g3 g4 g5 (zf_M_looks_l2 x1 x2 f0 f1 g0 g1 g3 g4 g5 n) x3 g2 g6 g7 = some q := h
      unfold zf_M_looks_l2_b at h
      refine zv_ild hB zd252_42 rfl rfl ?_
      refine zv_con hB zd252_43 rfl ?_
      refine zv_cge hB zd252_45 rfl (fun hc6 => ?_) (fun hc6 => ?_)
      · rw [if_neg (Int.not_lt.mpr hc6)] at h
        have hq := Option.some.inj h
        subst hq
        refine zv_wk hB (L' := [.inr 0, .inl x1, .inl x2, .inr 1000]) (F' := [.inl f0, .inl f1]) ⟨fun _ => rfl, fun _ => rfl, fun _ => rfl, fun (h : zv_is (.inr 1000)) => (Nat.lt_irrefl 1000 h).elim, trivial⟩ ⟨fun _ => rfl, fun _ => rfl, trivial⟩ ?_
        exact hK
      · rw [if_pos hc6] at h
        refine zv_ald hB zd252_48 rfl rfl rfl ?_
        refine zv_getf hB zd252_49 rfl rfl (fun _ _ => ?_)
        refine zv_ild hB zd252_52 rfl rfl ?_
        obtain ⟨r7, hr7, h⟩ := zi_bind h
        refine zv_cs hB (zv_emq (va2 := [.inl f1, .inl x2]) (F := [.inl f0, .inl f1]) (F' := [.inl f0, .inl f1]) (G := [g0, g1, g2, g3, g4, g5, g6, g7]) (G' := [g0, g1, g2, g3, g4, g5, g6, g7]) (ρ := []) (φ := []) (ψ := []) [none, none] [none, none, none, none, none, none, none, none] zyw_M_has zyw_M_looks zye_M_looks (by decide +kernel) (zt_M_has hr7) trivial trivial rfl rfl rfl rfl rfl rfl rfl) zd252_53 zxt204 rfl (by decide) (by decide) rfl ?_
        refine zv_zeq hB zd252_56 rfl (fun hc8 => ?_) (fun hc8 => ?_)
        · rw [if_pos hc8] at h
          have hq := Option.some.inj h
          subst hq
          refine zv_wk hB (L' := [.inr 0, .inl x1, .inl x2, .inr 1000]) (F' := [.inl f0, .inl f1]) ⟨fun _ => rfl, fun _ => rfl, fun _ => rfl, fun (h : zv_is (.inr 1000)) => (Nat.lt_irrefl 1000 h).elim, trivial⟩ ⟨fun _ => rfl, fun _ => rfl, trivial⟩ ?_
          exact hK
        · rw [if_neg hc8] at h
          refine zv_ald hB zd252_59 rfl rfl rfl ?_
          refine zv_getf hB zd252_60 rfl rfl (fun _ _ => ?_)
          refine zv_ild hB zd252_63 rfl rfl ?_
          obtain ⟨r9, hr9, h⟩ := zi_bind h
          refine zv_cs hB (zv_emq (va2 := [.inl f1, .inl x3]) (F := [.inl f0, .inl f1]) (F' := [.inl f0, .inl f1]) (G := [g0, g1, g2, g3, g4, g5, g6, g7]) (G' := [g0, g1, g2, g3, g4, g5, g6, g7]) (ρ := []) (φ := []) (ψ := []) [none, none] [none, none, none, none, none, none, none, none] zyw_M_has zyw_M_looks zye_M_looks (by decide +kernel) (zt_M_has hr9) trivial trivial rfl rfl rfl rfl rfl rfl rfl) zd252_64 zxt204 rfl (by decide) (by decide) rfl ?_
          refine zv_zeq hB zd252_67 rfl (fun hc10 => ?_) (fun hc10 => ?_)
          · rw [if_pos hc10] at h
            refine zv_iincw hB zd252_115 rfl rfl ?_
            refine zv_goto hB zd252_118 rfl ?_
            exact ih _ _ _ _ _ _ _ q h hK
          · rw [if_neg hc10] at h
            refine zv_ald hB zd252_70 rfl rfl rfl ?_
            refine zv_ild hB zd252_71 rfl rfl ?_
            refine zv_ild hB zd252_72 rfl rfl ?_
            refine zv_ild hB zd252_73 rfl rfl ?_
            obtain ⟨r11, hr11, h⟩ := zi_bind h
            refine zv_cv hB (zv_emq (va2 := [.inr 0, .inl x1, .inl x2, .inl x3]) (F := [.inl f0, .inl f1]) (F' := [.inl f0, .inl f1]) (G := [g0, g1, g2, g3, g4, g5, g6, g7]) (G' := [g0, g1, r11.2.1, g3, g4, g5, r11.2.2, g7]) (ρ := [0, 3, 1, 2, 4, 5, 6, 7]) (φ := [0]) (ψ := [2, 0, 1, 3, 4, 5, 6]) [some 0, none] [some 1, some 2, some 0, some 3, some 4, some 5, some 6, none] zyw_M_isDrawn zyw_M_looks zye_M_looks (by decide +kernel) (zt_M_isDrawn hr11) ⟨⟨_, rfl, fun _ => rfl⟩, trivial⟩ ⟨rfl, rfl, rfl, rfl, rfl, rfl, rfl, trivial⟩ rfl rfl rfl rfl rfl rfl rfl) zd252_74 zxt253 rfl (by decide) (by decide) rfl ?_
            refine zv_zne hB zd252_77 rfl (fun hc12 => ?_) (fun hc12 => ?_)
            · rw [if_neg hc12] at h
              refine zv_ald hB zd252_83 rfl rfl rfl ?_
              refine zv_getr hB zd252_84 rfl ?_
              refine zv_ild hB zd252_87 rfl rfl ?_
              refine zv_ald hB zd252_88 rfl rfl rfl ?_
              refine zv_getr hB zd252_89 rfl ?_
              refine zv_ild hB zd252_92 rfl rfl ?_
              obtain ⟨c13, h⟩ := zi_if h
              refine zv_iald hB zd252_93 rfl rfl (zi_ix_ok c13).1 (zi_ix_ok c13).2 (fun _ _ => ?_)
              refine zv_con hB zd252_94 rfl ?_
              refine zv_ild hB zd252_95 rfl rfl ?_
              refine zv_shlw hB zd252_96 ?_
              refine zv_orw hB zd252_97 ?_
              refine zv_iast hB zd252_98 rfl rfl (zi_ix_ok c13).1 (zi_ix_ok c13).2 ?_
              refine zv_ald hB zd252_99 rfl rfl rfl ?_
              refine zv_getr hB zd252_100 rfl ?_
              refine zv_ild hB zd252_103 rfl rfl ?_
              refine zv_ald hB zd252_104 rfl rfl rfl ?_
              refine zv_getr hB zd252_105 rfl ?_
              refine zv_ild hB zd252_108 rfl rfl ?_
              obtain ⟨c14, h⟩ := zi_if h
              refine zv_iald hB zd252_109 rfl rfl (zi_ix_ok c14).1 (zi_ix_ok c14).2 (fun _ _ => ?_)
              refine zv_con hB zd252_110 rfl ?_
              refine zv_ild hB zd252_111 rfl rfl ?_
              refine zv_shlw hB zd252_112 ?_
              refine zv_orw hB zd252_113 ?_
              refine zv_iast hB zd252_114 rfl rfl (zi_ix_ok c14).1 (zi_ix_ok c14).2 ?_
              refine zv_iincw hB zd252_115 rfl rfl ?_
              refine zv_goto hB zd252_118 rfl ?_
              exact ih _ _ _ _ _ _ _ q h hK
            · rw [if_pos hc12] at h
              refine zv_goto hB zd252_80 rfl ?_
              refine zv_iincw hB zd252_115 rfl rfl ?_
              refine zv_goto hB zd252_118 rfl ?_
              exact ih _ _ _ _ _ _ _ q h hK
  have l1 : ∀ (n : Nat) (x1 : Int) (x2 : Int) (f1 : Int) (g2 : (Int → Int)) (g6 : (Int → Int)) (g7 : (Int → Int)) (q : (Int → Int) × (Int → Int) × (Int → Int)), zf_M_looks_l1 x1 f0 f1 g0 g1 g3 g4 g5 n x2 g2 g6 g7 = some q → (good 127 [.inr 1000, .inr 1000, .inr 1000, .inr 1000] [] [.inl f0, .inl f1] [g0, g1, q.1, g3, g4, g5, q.2.1, q.2.2]) → good 32 [.inr 0, .inl x1, .inl x2, .inr 1000] [] [.inl f0, .inl f1] [g0, g1, g2, g3, g4, g5, g6, g7] := by
    intro n
    induction n with
    | zero => intro x1 x2 f1 g2 g6 g7 q h; exact absurd (show none = some q from h) (fun h => by cases h)
    | succ n ih =>
      intro x1 x2 f1 g2 g6 g7 q h hK
      replace h : zf_M_looks_l1_b x1 f0 f1 g0 g1 g3 g4 g5 (zf_M_looks_l1 x1 f0 f1 g0 g1 g3 g4 g5 n) x2 g2 g6 g7 = some q := h
      unfold zf_M_looks_l1_b at h
      refine zv_ild hB zd252_32 rfl rfl ?_
      refine zv_con hB zd252_33 rfl ?_
      refine zv_cge hB zd252_35 rfl (fun hc5 => ?_) (fun hc5 => ?_)
      · rw [if_neg (Int.not_lt.mpr hc5)] at h
        have hq := Option.some.inj h
        subst hq
        refine zv_wk hB (L' := [.inr 1000, .inr 1000, .inr 1000, .inr 1000]) (F' := [.inl f0, .inl f1]) ⟨fun (h : zv_is (.inr 1000)) => (Nat.lt_irrefl 1000 h).elim, fun (h : zv_is (.inr 1000)) => (Nat.lt_irrefl 1000 h).elim, fun (h : zv_is (.inr 1000)) => (Nat.lt_irrefl 1000 h).elim, fun (h : zv_is (.inr 1000)) => (Nat.lt_irrefl 1000 h).elim, trivial⟩ ⟨fun _ => rfl, fun _ => rfl, trivial⟩ ?_
        exact hK
      · rw [if_pos hc5] at h
        refine zv_ild hB zd252_38 rfl rfl ?_
        refine zv_con hB zd252_39 rfl ?_
        refine zv_addw hB zd252_40 ?_
        refine zv_ist hB zd252_41 rfl rfl rfl ?_
        obtain ⟨q15, hq15, h⟩ := zi_bind h
        refine l2 _ _ _ _ _ _ _ _ q15 hq15 ?_
        show good 121 [.inr 0, .inl x1, .inl x2, .inr 1000] [] [.inl f0, .inl f1] [g0, g1, q15.1, g3, g4, g5, q15.2.1, q15.2.2]
        refine zv_iincw hB zd252_121 rfl rfl ?_
        refine zv_goto hB zd252_124 rfl ?_
        exact ih _ _ _ _ _ _ q h hK
  unfold zf_M_looks at h
  refine zv_ald hB zd252_0 rfl rfl rfl ?_
  refine zv_ald hB zd252_1 rfl rfl rfl ?_
  refine zv_ild hB zd252_2 rfl rfl ?_
  obtain ⟨r1, hr1, h⟩ := zi_bind h
  refine zv_cv hB (zv_emq (va2 := [.inr 0, .inl x1]) (F := [.inl f0, .inl f1]) (F' := [.inl f0, .inl f1]) (G := [g0, g1, g2, g3, g4, g5, g6, g7]) (G' := [g0, g1, r1.2.1, g3, g4, g5, r1.2.2, g7]) (ρ := [0, 1, 2, 3, 4, 5, 6, 7]) (φ := [0]) (ψ := [0, 1, 2, 3, 4, 5, 6]) [some 0, none] [some 0, some 1, some 2, some 3, some 4, some 5, some 6, none] zyw_M_seenFrom zyw_M_looks zye_M_looks (by decide +kernel) (zt_M_seenFrom hr1) ⟨⟨_, rfl, fun _ => rfl⟩, trivial⟩ ⟨rfl, rfl, rfl, rfl, rfl, rfl, rfl, trivial⟩ rfl rfl rfl rfl rfl rfl rfl) zd252_3 zxt240 rfl (by decide) (by decide) rfl ?_
  refine zv_putf hB zd252_6 rfl rfl (fun h => by cases h) rfl ?_
  refine zv_con hB zd252_9 rfl ?_
  refine zv_ist hB zd252_10 rfl rfl rfl ?_
  obtain ⟨q4, hq4, h⟩ := zi_bind h
  refine l0 _ _ _ _ _ _ _ q4 hq4 ?_
  show good 30 [.inr 0, .inl x1, .inr 1000, .inr 1000] [] [.inl f0, .inl r1.1] [g0, g1, r1.2.1, g3, g4, g5, r1.2.2, q4]
  refine zv_con hB zd252_30 rfl ?_
  refine zv_ist hB zd252_31 rfl rfl rfl ?_
  obtain ⟨q16, hq16, h⟩ := zi_bind h
  refine l1 _ _ _ _ _ _ _ q16 hq16 ?_
  show good 127 [.inr 1000, .inr 1000, .inr 1000, .inr 1000] [] [.inl f0, .inl r1.1] [g0, g1, q16.1, g3, g4, g5, q16.2.1, q16.2.2]
  have hw := Option.some.inj h
  subst hw
  exact hvret _ _ _ _ zd252_127 trivial ⟨rfl, rfl, rfl⟩
/-! M_line (IIII)I -/
-- names: 0 StarTalesModel('arg', 0), 1 (0, 422)(0, 12, 0), 2 (0, 14)(0, 12, 21), 3 (0, 13)(0, 12, 26), 4 (0, 14)(0, 12, 23), 5 (0, 14)(0, 12, 24), 6 (0, 220)(0, 12, 20), 7 (0, 220)(0, 12, 25), 8 (0, 24)(0, 12, 28)
-- fields: f0 = 0.clauses_, f1 = 0.seen0_; arrays: g0 = 1, g1 = 2, g2 = 3, g3 = 4, g4 = 5, g5 = 6, g6 = 7, g7 = 8; out: [('ret', None), ('f', 1), ('g', 2), ('g', 6), ('g', 7)]
abbrev zy_M_line : zNL := (9, [(0, 12)], [(0, 12, 13, 0), (0, 12, 27, 1)], [(0, 12, 0, 1), (0, 12, 21, 2), (0, 12, 26, 3), (0, 12, 23, 4), (0, 12, 24, 5), (0, 12, 20, 6), (0, 12, 25, 7), (0, 12, 28, 8)], [(1, 0, 422, 0), (2, 0, 14, 1), (3, 0, 13, 2), (4, 0, 14, 3), (5, 0, 14, 4), (6, 0, 220, 5), (7, 0, 220, 6), (8, 0, 24, 7)])
theorem zyw_M_line : zv_wf zy_M_line = true := by decide +kernel
theorem zye_M_line : zv_ek2 zy_M_line = true := by decide +kernel
def zf_M_line (x1 : Int) (x2 : Int) (x3 : Int) (x4 : Int) (f0 : Int) (f1 : Int) (g0 : (Int → Int)) (g1 : (Int → Int)) (g2 : (Int → Int)) (g3 : (Int → Int)) (g4 : (Int → Int)) (g5 : (Int → Int)) (g6 : (Int → Int)) (g7 : (Int → Int)) : Option (Int × Int × (Int → Int) × (Int → Int) × (Int → Int)) := (zf_M_isPlace x1 x2).bind fun r1 => (if r1 = 0 then (some ((-1), f1, g2, g6, g7)) else ((zf_M_isTold x3 g0).bind fun r3 => (if r3 = 0 then (some ((-1), f1, g2, g6, g7)) else ((zf_M_isTold x4 g0).bind fun r5 => (if r5 = 0 then (some ((-1), f1, g2, g6, g7)) else (if x3 = x4 then (some ((-1), f1, g2, g6, g7)) else ((zf_M_looks (zi_w ((zi_w (24 * x2)) + x1)) f0 f1 g0 g1 g2 g3 g4 g5 g6 g7).bind fun r8 => (cond (zi_ix x3 24) ((zf_M_has (r8.2.2.2 x3) x4).bind fun r10 => (if r10 = 0 then (some (0, r8.1, r8.2.1, r8.2.2.1, r8.2.2.2)) else (some (1, r8.1, r8.2.1, r8.2.2.1, r8.2.2.2)))) none))))))))
theorem zd251_0 : decode zxm251.2.1 0 = .ok (.iload_n 1, 1) := by decide +kernel
theorem zd251_1 : decode zxm251.2.1 1 = .ok (.iload_n 2, 1) := by decide +kernel
theorem zd251_2 : decode zxm251.2.1 2 = .ok (.invokestatic 154, 3) := by decide +kernel
theorem zd251_5 : decode zxm251.2.1 5 = .ok (.ifCond .eq 26, 3) := by decide +kernel
theorem zd251_8 : decode zxm251.2.1 8 = .ok (.aload_n 0, 1) := by decide +kernel
theorem zd251_9 : decode zxm251.2.1 9 = .ok (.iload_n 3, 1) := by decide +kernel
theorem zd251_10 : decode zxm251.2.1 10 = .ok (.invokevirtual 157, 3) := by decide +kernel
theorem zd251_13 : decode zxm251.2.1 13 = .ok (.ifCond .eq 18, 3) := by decide +kernel
theorem zd251_16 : decode zxm251.2.1 16 = .ok (.aload_n 0, 1) := by decide +kernel
theorem zd251_17 : decode zxm251.2.1 17 = .ok (.iload 4, 2) := by decide +kernel
theorem zd251_19 : decode zxm251.2.1 19 = .ok (.invokevirtual 157, 3) := by decide +kernel
theorem zd251_22 : decode zxm251.2.1 22 = .ok (.ifCond .eq 9, 3) := by decide +kernel
theorem zd251_25 : decode zxm251.2.1 25 = .ok (.iload_n 3, 1) := by decide +kernel
theorem zd251_26 : decode zxm251.2.1 26 = .ok (.iload 4, 2) := by decide +kernel
theorem zd251_28 : decode zxm251.2.1 28 = .ok (.if_icmp .ne 5, 3) := by decide +kernel
theorem zd251_31 : decode zxm251.2.1 31 = .ok (.iconst (-1), 1) := by decide +kernel
theorem zd251_32 : decode zxm251.2.1 32 = .ok (.ireturn, 1) := by decide +kernel
theorem zd251_33 : decode zxm251.2.1 33 = .ok (.aload_n 0, 1) := by decide +kernel
theorem zd251_34 : decode zxm251.2.1 34 = .ok (.bipush 24, 2) := by decide +kernel
theorem zd251_36 : decode zxm251.2.1 36 = .ok (.iload_n 2, 1) := by decide +kernel
theorem zd251_37 : decode zxm251.2.1 37 = .ok (.imul, 1) := by decide +kernel
theorem zd251_38 : decode zxm251.2.1 38 = .ok (.iload_n 1, 1) := by decide +kernel
theorem zd251_39 : decode zxm251.2.1 39 = .ok (.iadd, 1) := by decide +kernel
theorem zd251_40 : decode zxm251.2.1 40 = .ok (.invokevirtual 309, 3) := by decide +kernel
theorem zd251_43 : decode zxm251.2.1 43 = .ok (.aload_n 0, 1) := by decide +kernel
theorem zd251_44 : decode zxm251.2.1 44 = .ok (.getfield 62, 3) := by decide +kernel
theorem zd251_47 : decode zxm251.2.1 47 = .ok (.iload_n 3, 1) := by decide +kernel
theorem zd251_48 : decode zxm251.2.1 48 = .ok (.iaload, 1) := by decide +kernel
theorem zd251_49 : decode zxm251.2.1 49 = .ok (.iload 4, 2) := by decide +kernel
theorem zd251_51 : decode zxm251.2.1 51 = .ok (.invokestatic 138, 3) := by decide +kernel
theorem zd251_54 : decode zxm251.2.1 54 = .ok (.ifCond .eq 7, 3) := by decide +kernel
theorem zd251_57 : decode zxm251.2.1 57 = .ok (.iconst 1, 1) := by decide +kernel
theorem zd251_58 : decode zxm251.2.1 58 = .ok (.goto 4, 3) := by decide +kernel
theorem zd251_61 : decode zxm251.2.1 61 = .ok (.iconst 0, 1) := by decide +kernel
theorem zd251_62 : decode zxm251.2.1 62 = .ok (.ireturn, 1) := by decide +kernel
theorem zt_M_line {x1 : Int} {x2 : Int} {x3 : Int} {x4 : Int} {f0 : Int} {f1 : Int} {g0 : (Int → Int)} {g1 : (Int → Int)} {g2 : (Int → Int)} {g3 : (Int → Int)} {g4 : (Int → Int)} {g5 : (Int → Int)} {g6 : (Int → Int)} {g7 : (Int → Int)} {o : Int × Int × (Int → Int) × (Int → Int) × (Int → Int)} (h : zf_M_line x1 x2 x3 x4 f0 f1 g0 g1 g2 g3 g4 g5 g6 g7 = some o) : zv_Fn z_TB z_cl z_KX zy_M_line zxm251 (6, 360) [.inr 0, .inl x1, .inl x2, .inl x3, .inl x4] [.inl f0, .inl f1] [g0, g1, g2, g3, g4, g5, g6, g7] (some o.1) [.inl f0, .inl o.2.1] [g0, g1, o.2.2.1, g3, g4, g5, o.2.2.2.1, o.2.2.2.2] := zv_meth (K := (z_KF13, z_KC13, z_KL13, z_KT13, [], [], [], none)) (FT := z_FT) (MT := z_MT) (n := 5) zxp251 (z_ks13 _ (fun _ h => List.mem_cons_of_mem _ h) _ _ _ _ (fun j r h _ => by cases h)) (fun _ _ => zs_KX_p) zyw_M_line (fun va F G h => by obtain ⟨rfl, _⟩ := h; rfl) (fun va F G h => by obtain ⟨rfl, _⟩ := h; rfl) rfl fun good va F G hB hret hvret hP => by
  obtain ⟨rfl, rfl, rfl⟩ := hP
  unfold zf_M_line at h
  refine zv_ild hB zd251_0 rfl rfl ?_
  refine zv_ild hB zd251_1 rfl rfl ?_
  obtain ⟨r1, hr1, h⟩ := zi_bind h
  refine zv_cs hB (zv_emq (va2 := [.inl x1, .inl x2]) (F := [.inl f0, .inl f1]) (F' := [.inl f0, .inl f1]) (G := [g0, g1, g2, g3, g4, g5, g6, g7]) (G' := [g0, g1, g2, g3, g4, g5, g6, g7]) (ρ := []) (φ := []) (ψ := []) [none, none] [none, none, none, none, none, none, none, none] zyw_M_isPlace zyw_M_line zye_M_line (by decide +kernel) (zt_M_isPlace hr1) trivial trivial rfl rfl rfl rfl rfl rfl rfl) zd251_2 zxt201 rfl (by decide) (by decide) rfl ?_
  refine zv_zeq hB zd251_5 rfl (fun hc2 => ?_) (fun hc2 => ?_)
  · rw [if_pos hc2] at h
    refine zv_con hB zd251_31 rfl ?_
    have hw := Option.some.inj h
    subst hw
    exact hret _ _ _ _ _ zd251_32 (by trivial) ⟨rfl, rfl, rfl⟩
  · rw [if_neg hc2] at h
    refine zv_ald hB zd251_8 rfl rfl rfl ?_
    refine zv_ild hB zd251_9 rfl rfl ?_
    obtain ⟨r3, hr3, h⟩ := zi_bind h
    refine zv_cv hB (zv_emq (va2 := [.inr 0, .inl x3]) (F := [.inl f0, .inl f1]) (F' := [.inl f0, .inl f1]) (G := [g0, g1, g2, g3, g4, g5, g6, g7]) (G' := [g0, g1, g2, g3, g4, g5, g6, g7]) (ρ := [0, 1]) (φ := []) (ψ := [0]) [none, none] [some 0, none, none, none, none, none, none, none] zyw_M_isTold zyw_M_line zye_M_line (by decide +kernel) (zt_M_isTold hr3) trivial ⟨rfl, trivial⟩ rfl rfl rfl rfl rfl rfl rfl) zd251_10 zxt203 rfl (by decide) (by decide) rfl ?_
    refine zv_zeq hB zd251_13 rfl (fun hc4 => ?_) (fun hc4 => ?_)
    · rw [if_pos hc4] at h
      refine zv_con hB zd251_31 rfl ?_
      have hw := Option.some.inj h
      subst hw
      exact hret _ _ _ _ _ zd251_32 (by trivial) ⟨rfl, rfl, rfl⟩
    · rw [if_neg hc4] at h
      refine zv_ald hB zd251_16 rfl rfl rfl ?_
      refine zv_ild hB zd251_17 rfl rfl ?_
      obtain ⟨r5, hr5, h⟩ := zi_bind h
      refine zv_cv hB (zv_emq (va2 := [.inr 0, .inl x4]) (F := [.inl f0, .inl f1]) (F' := [.inl f0, .inl f1]) (G := [g0, g1, g2, g3, g4, g5, g6, g7]) (G' := [g0, g1, g2, g3, g4, g5, g6, g7]) (ρ := [0, 1]) (φ := []) (ψ := [0]) [none, none] [some 0, none, none, none, none, none, none, none] zyw_M_isTold zyw_M_line zye_M_line (by decide +kernel) (zt_M_isTold hr5) trivial ⟨rfl, trivial⟩ rfl rfl rfl rfl rfl rfl rfl) zd251_19 zxt203 rfl (by decide) (by decide) rfl ?_
      refine zv_zeq hB zd251_22 rfl (fun hc6 => ?_) (fun hc6 => ?_)
      · rw [if_pos hc6] at h
        refine zv_con hB zd251_31 rfl ?_
        have hw := Option.some.inj h
        subst hw
        exact hret _ _ _ _ _ zd251_32 (by trivial) ⟨rfl, rfl, rfl⟩
      · rw [if_neg hc6] at h
        refine zv_ild hB zd251_25 rfl rfl ?_
        refine zv_ild hB zd251_26 rfl rfl ?_
        refine zv_cne hB zd251_28 rfl (fun hc7 => ?_) (fun hc7 => ?_)
        · rw [if_neg hc7] at h
          refine zv_ald hB zd251_33 rfl rfl rfl ?_
          refine zv_con hB zd251_34 rfl ?_
          refine zv_ild hB zd251_36 rfl rfl ?_
          refine zv_mulw hB zd251_37 ?_
          refine zv_ild hB zd251_38 rfl rfl ?_
          refine zv_addw hB zd251_39 ?_
          obtain ⟨r8, hr8, h⟩ := zi_bind h
          refine zv_cv hB (zv_emq (va2 := [.inr 0, .inl (zi_w ((zi_w (24 * x2)) + x1))]) (F := [.inl f0, .inl f1]) (F' := [.inl f0, .inl r8.1]) (G := [g0, g1, g2, g3, g4, g5, g6, g7]) (G' := [g0, g1, r8.2.1, g3, g4, g5, r8.2.2.1, r8.2.2.2]) (ρ := [0, 1, 2, 3, 4, 5, 6, 7, 8]) (φ := [0, 1]) (ψ := [0, 1, 2, 3, 4, 5, 6, 7]) [some 0, some 1] [some 0, some 1, some 2, some 3, some 4, some 5, some 6, some 7] zyw_M_looks zyw_M_line zye_M_line (by decide +kernel) (zt_M_looks hr8) ⟨⟨_, rfl, fun _ => rfl⟩, ⟨_, rfl, fun _ => rfl⟩, trivial⟩ ⟨rfl, rfl, rfl, rfl, rfl, rfl, rfl, rfl, trivial⟩ rfl rfl rfl rfl rfl rfl rfl) zd251_40 zxt252 rfl (by decide) (by decide) rfl ?_
          refine zv_ald hB zd251_43 rfl rfl rfl ?_
          refine zv_getr hB zd251_44 rfl ?_
          refine zv_ild hB zd251_47 rfl rfl ?_
          obtain ⟨c9, h⟩ := zi_if h
          refine zv_iald hB zd251_48 rfl rfl (zi_ix_ok c9).1 (zi_ix_ok c9).2 (fun _ _ => ?_)
          refine zv_ild hB zd251_49 rfl rfl ?_
          obtain ⟨r10, hr10, h⟩ := zi_bind h
          refine zv_cs hB (zv_emq (va2 := [.inl (r8.2.2.2 x3), .inl x4]) (F := [.inl f0, .inl r8.1]) (F' := [.inl f0, .inl r8.1]) (G := [g0, g1, r8.2.1, g3, g4, g5, r8.2.2.1, r8.2.2.2]) (G' := [g0, g1, r8.2.1, g3, g4, g5, r8.2.2.1, r8.2.2.2]) (ρ := []) (φ := []) (ψ := []) [none, none] [none, none, none, none, none, none, none, none] zyw_M_has zyw_M_line zye_M_line (by decide +kernel) (zt_M_has hr10) trivial trivial rfl rfl rfl rfl rfl rfl rfl) zd251_51 zxt204 rfl (by decide) (by decide) rfl ?_
          refine zv_zeq hB zd251_54 rfl (fun hc11 => ?_) (fun hc11 => ?_)
          · rw [if_pos hc11] at h
            refine zv_con hB zd251_61 rfl ?_
            have hw := Option.some.inj h
            subst hw
            exact hret _ _ _ _ _ zd251_62 (by trivial) ⟨rfl, rfl, rfl⟩
          · rw [if_neg hc11] at h
            refine zv_con hB zd251_57 rfl ?_
            refine zv_goto hB zd251_58 rfl ?_
            have hw := Option.some.inj h
            subst hw
            exact hret _ _ _ _ _ zd251_62 (by trivial) ⟨rfl, rfl, rfl⟩
        · rw [if_pos hc7] at h
          refine zv_con hB zd251_31 rfl ?_
          have hw := Option.some.inj h
          subst hw
          exact hret _ _ _ _ _ zd251_32 (by trivial) ⟨rfl, rfl, rfl⟩
/-! M_figureOf (I)I -/
-- names: 0 StarTalesModel('arg', 0), 1 (0, 24)(0, 12, 28)
-- fields: ; arrays: g0 = 1; out: [('ret', None)]
abbrev zy_M_figureOf : zNL := (2, [(0, 12)], [], [(0, 12, 28, 1)], [(1, 0, 24, 0)])
theorem zyw_M_figureOf : zv_wf zy_M_figureOf = true := by decide +kernel
theorem zye_M_figureOf : zv_ek2 zy_M_figureOf = true := by decide +kernel
def zf_M_figureOf_l1_b (x3 : Int) (g0 : (Int → Int)) (rec : Int → Int → Option (Int)) (x2 : Int) (x4 : Int) : Option (Int) := if x4 < 24 then ((zf_M_has x3 x4).bind fun r3 => (if r3 = 0 then (rec x2 (zi_w (x4 + 1))) else (cond (zi_ix x4 24) (rec (zi_or x2 (g0 x4)) (zi_w (x4 + 1))) none))) else (some x2)
def zf_M_figureOf_l1 (x3 : Int) (g0 : (Int → Int)) : Nat → Int → Int → Option (Int)
  | 0, _, _ => none
  | n + 1, x2, x4 => zf_M_figureOf_l1_b x3 g0 (zf_M_figureOf_l1 x3 g0 n) x2 x4
def zf_M_figureOf_l0_b (g0 : (Int → Int)) (rec : Int → Int → Option (Int)) (x2 : Int) (x3 : Int) : Option (Int) := if x3 = x2 then (some x2) else ((zf_M_figureOf_l1 x2 g0 zi_fu x2 0).bind fun q6 => (rec q6 x2))
def zf_M_figureOf_l0 (g0 : (Int → Int)) : Nat → Int → Int → Option (Int)
  | 0, _, _ => none
  | n + 1, x2, x3 => zf_M_figureOf_l0_b g0 (zf_M_figureOf_l0 g0 n) x2 x3
def zf_M_figureOf (x1 : Int) (g0 : (Int → Int)) : Option (Int) := (zf_M_figureOf_l0 g0 zi_fu (zi_shl 1 x1) 0).bind fun q7 => (some q7)
theorem zd256_0 : decode zxm256.2.1 0 = .ok (.iconst 1, 1) := by decide +kernel
theorem zd256_1 : decode zxm256.2.1 1 = .ok (.iload_n 1, 1) := by decide +kernel
theorem zd256_2 : decode zxm256.2.1 2 = .ok (.ishl, 1) := by decide +kernel
theorem zd256_3 : decode zxm256.2.1 3 = .ok (.istore_n 2, 1) := by decide +kernel
theorem zd256_4 : decode zxm256.2.1 4 = .ok (.iconst 0, 1) := by decide +kernel
theorem zd256_5 : decode zxm256.2.1 5 = .ok (.istore_n 3, 1) := by decide +kernel
theorem zd256_6 : decode zxm256.2.1 6 = .ok (.iload_n 3, 1) := by decide +kernel
theorem zd256_7 : decode zxm256.2.1 7 = .ok (.iload_n 2, 1) := by decide +kernel
theorem zd256_8 : decode zxm256.2.1 8 = .ok (.if_icmp .eq 43, 3) := by decide +kernel
theorem zd256_11 : decode zxm256.2.1 11 = .ok (.iload_n 2, 1) := by decide +kernel
theorem zd256_12 : decode zxm256.2.1 12 = .ok (.istore_n 3, 1) := by decide +kernel
theorem zd256_13 : decode zxm256.2.1 13 = .ok (.iconst 0, 1) := by decide +kernel
theorem zd256_14 : decode zxm256.2.1 14 = .ok (.istore 4, 2) := by decide +kernel
theorem zd256_16 : decode zxm256.2.1 16 = .ok (.iload 4, 2) := by decide +kernel
theorem zd256_18 : decode zxm256.2.1 18 = .ok (.bipush 24, 2) := by decide +kernel
theorem zd256_20 : decode zxm256.2.1 20 = .ok (.if_icmp .ge 28, 3) := by decide +kernel
theorem zd256_23 : decode zxm256.2.1 23 = .ok (.iload_n 3, 1) := by decide +kernel
theorem zd256_24 : decode zxm256.2.1 24 = .ok (.iload 4, 2) := by decide +kernel
theorem zd256_26 : decode zxm256.2.1 26 = .ok (.invokestatic 138, 3) := by decide +kernel
theorem zd256_29 : decode zxm256.2.1 29 = .ok (.ifCond .eq 13, 3) := by decide +kernel
theorem zd256_32 : decode zxm256.2.1 32 = .ok (.iload_n 2, 1) := by decide +kernel
theorem zd256_33 : decode zxm256.2.1 33 = .ok (.aload_n 0, 1) := by decide +kernel
theorem zd256_34 : decode zxm256.2.1 34 = .ok (.getfield 62, 3) := by decide +kernel
theorem zd256_37 : decode zxm256.2.1 37 = .ok (.iload 4, 2) := by decide +kernel
theorem zd256_39 : decode zxm256.2.1 39 = .ok (.iaload, 1) := by decide +kernel
theorem zd256_40 : decode zxm256.2.1 40 = .ok (.ior, 1) := by decide +kernel
theorem zd256_41 : decode zxm256.2.1 41 = .ok (.istore_n 2, 1) := by decide +kernel
theorem zd256_42 : decode zxm256.2.1 42 = .ok (.iinc 4 1, 3) := by decide +kernel
theorem zd256_45 : decode zxm256.2.1 45 = .ok (.goto (-29), 3) := by decide +kernel
theorem zd256_48 : decode zxm256.2.1 48 = .ok (.goto (-42), 3) := by decide +kernel
theorem zd256_51 : decode zxm256.2.1 51 = .ok (.iload_n 2, 1) := by decide +kernel
theorem zd256_52 : decode zxm256.2.1 52 = .ok (.ireturn, 1) := by decide +kernel
theorem zt_M_figureOf {x1 : Int} {g0 : (Int → Int)} {o : Int} (h : zf_M_figureOf x1 g0 = some o) : zv_Fn z_TB z_cl z_KX zy_M_figureOf zxm256 (1, 60) [.inr 0, .inl x1] [] [g0] (some o) [] [g0] := zv_meth (K := (z_KF13, z_KC13, z_KL13, z_KT13, [], [], [], none)) (FT := z_FT) (MT := z_MT) (n := 2) zxp256 (z_ks13 _ (fun _ h => List.mem_cons_of_mem _ h) _ _ _ _ (fun j r h _ => by cases h)) (fun _ _ => zs_KX_p) zyw_M_figureOf (fun va F G h => by obtain ⟨rfl, _⟩ := h; rfl) (fun va F G h => by obtain ⟨rfl, _⟩ := h; rfl) rfl fun good va F G hB hret hvret hP => by
  obtain ⟨rfl, rfl, rfl⟩ := hP
  have l1 : ∀ (n : Nat) (x2 : Int) (x3 : Int) (x4 : Int) (q : Int), zf_M_figureOf_l1 x3 g0 n x2 x4 = some q → (good 48 [.inr 0, .inr 1000, .inl q, .inl x3, .inr 1000] [] [] [g0]) → good 16 [.inr 0, .inr 1000, .inl x2, .inl x3, .inl x4] [] [] [g0] := by
    intro n
    induction n with
    | zero => intro x2 x3 x4 q h; exact absurd (show none = some q from h) (fun h => by cases h)
    | succ n ih =>
      intro x2 x3 x4 q h hK
      replace h : zf_M_figureOf_l1_b x3 g0 (zf_M_figureOf_l1 x3 g0 n) x2 x4 = some q := h
      unfold zf_M_figureOf_l1_b at h
      refine zv_ild hB zd256_16 rfl rfl ?_
      refine zv_con hB zd256_18 rfl ?_
      refine zv_cge hB zd256_20 rfl (fun hc2 => ?_) (fun hc2 => ?_)
      · rw [if_neg (Int.not_lt.mpr hc2)] at h
        have hq := Option.some.inj h
        subst hq
        refine zv_wk hB (L' := [.inr 0, .inr 1000, .inl x2, .inl x3, .inr 1000]) (F' := []) ⟨fun _ => rfl, fun (h : zv_is (.inr 1000)) => (Nat.lt_irrefl 1000 h).elim, fun _ => rfl, fun _ => rfl, fun (h : zv_is (.inr 1000)) => (Nat.lt_irrefl 1000 h).elim, trivial⟩ trivial ?_
        exact hK
      · rw [if_pos hc2] at h
        refine zv_ild hB zd256_23 rfl rfl ?_
        refine zv_ild hB zd256_24 rfl rfl ?_
        obtain ⟨r3, hr3, h⟩ := zi_bind h
        refine zv_cs hB (zv_emq (va2 := [.inl x3, .inl x4]) (F := []) (F' := []) (G := [g0]) (G' := [g0]) (ρ := []) (φ := []) (ψ := []) [] [none] zyw_M_has zyw_M_figureOf zye_M_figureOf (by decide +kernel) (zt_M_has hr3) trivial trivial rfl rfl rfl rfl rfl rfl rfl) zd256_26 zxt204 rfl (by decide) (by decide) rfl ?_
        refine zv_zeq hB zd256_29 rfl (fun hc4 => ?_) (fun hc4 => ?_)
        · rw [if_pos hc4] at h
          refine zv_iincw hB zd256_42 rfl rfl ?_
          refine zv_goto hB zd256_45 rfl ?_
          exact ih _ _ _ q h hK
        · rw [if_neg hc4] at h
          refine zv_ild hB zd256_32 rfl rfl ?_
          refine zv_ald hB zd256_33 rfl rfl rfl ?_
          refine zv_getr hB zd256_34 rfl ?_
          refine zv_ild hB zd256_37 rfl rfl ?_
          obtain ⟨c5, h⟩ := zi_if h
          refine zv_iald hB zd256_39 rfl rfl (zi_ix_ok c5).1 (zi_ix_ok c5).2 (fun _ _ => ?_)
          refine zv_orw hB zd256_40 ?_
          refine zv_ist hB zd256_41 rfl rfl rfl ?_
          refine zv_iincw hB zd256_42 rfl rfl ?_
          refine zv_goto hB zd256_45 rfl ?_
          exact ih _ _ _ q h hK
  have l0 : ∀ (n : Nat) (x2 : Int) (x3 : Int) (q : Int), zf_M_figureOf_l0 g0 n x2 x3 = some q → (good 51 [.inr 1000, .inr 1000, .inl q, .inr 1000, .inr 1000] [] [] [g0]) → good 6 [.inr 0, .inr 1000, .inl x2, .inl x3, .inr 1000] [] [] [g0] := by
    intro n
    induction n with
    | zero => intro x2 x3 q h; exact absurd (show none = some q from h) (fun h => by cases h)
    | succ n ih =>
      intro x2 x3 q h hK
      replace h : zf_M_figureOf_l0_b g0 (zf_M_figureOf_l0 g0 n) x2 x3 = some q := h
      unfold zf_M_figureOf_l0_b at h
      refine zv_ild hB zd256_6 rfl rfl ?_
      refine zv_ild hB zd256_7 rfl rfl ?_
      refine zv_ceq hB zd256_8 rfl (fun hc1 => ?_) (fun hc1 => ?_)
      · rw [if_pos hc1] at h
        have hq := Option.some.inj h
        subst hq
        refine zv_wk hB (L' := [.inr 1000, .inr 1000, .inl x2, .inr 1000, .inr 1000]) (F' := []) ⟨fun (h : zv_is (.inr 1000)) => (Nat.lt_irrefl 1000 h).elim, fun (h : zv_is (.inr 1000)) => (Nat.lt_irrefl 1000 h).elim, fun _ => rfl, fun (h : zv_is (.inr 1000)) => (Nat.lt_irrefl 1000 h).elim, fun (h : zv_is (.inr 1000)) => (Nat.lt_irrefl 1000 h).elim, trivial⟩ trivial ?_
        exact hK
      · rw [if_neg hc1] at h
        refine zv_ild hB zd256_11 rfl rfl ?_
        refine zv_ist hB zd256_12 rfl rfl rfl ?_
        refine zv_con hB zd256_13 rfl ?_
        refine zv_ist hB zd256_14 rfl rfl rfl ?_
        obtain ⟨q6, hq6, h⟩ := zi_bind h
        refine l1 _ _ _ _ q6 hq6 ?_
        show good 48 [.inr 0, .inr 1000, .inl q6, .inl x2, .inr 1000] [] [] [g0]
        refine zv_goto hB zd256_48 rfl ?_
        exact ih _ _ q h hK
  unfold zf_M_figureOf at h
  refine zv_con hB zd256_0 rfl ?_
  refine zv_ild hB zd256_1 rfl rfl ?_
  refine zv_shlw hB zd256_2 ?_
  refine zv_ist hB zd256_3 rfl rfl rfl ?_
  refine zv_con hB zd256_4 rfl ?_
  refine zv_ist hB zd256_5 rfl rfl rfl ?_
  obtain ⟨q7, hq7, h⟩ := zi_bind h
  refine zv_wk hB (L' := [.inr 0, .inr 1000, .inl (zi_shl 1 x1), .inl 0, .inr 1000]) (F' := []) ⟨fun _ => rfl, fun (h : zv_is (.inr 1000)) => (Nat.lt_irrefl 1000 h).elim, fun _ => rfl, fun _ => rfl, fun (h : zv_is (.inr 1000)) => (Nat.lt_irrefl 1000 h).elim, trivial⟩ trivial ?_
  refine l0 _ _ _ q7 hq7 ?_
  show good 51 [.inr 1000, .inr 1000, .inl q7, .inr 1000, .inr 1000] [] [] [g0]
  refine zv_ild hB zd256_51 rfl rfl ?_
  have hw := Option.some.inj h
  subst hw
  exact hret _ _ _ _ _ zd256_52 (by trivial) ⟨rfl, rfl, rfl⟩
/-! M_bits (I)I -/
-- names: 
-- fields: ; arrays: ; out: [('ret', None)]
abbrev zy_M_bits : zNL := (0, [], [], [], [])
theorem zyw_M_bits : zv_wf zy_M_bits = true := by decide +kernel
theorem zye_M_bits : zv_ek2 zy_M_bits = true := by decide +kernel
def zf_M_bits_l0_b (x0 : Int) (rec : Int → Int → Option (Int)) (x1 : Int) (x2 : Int) : Option (Int) := if x2 < 24 then (rec (zi_w (x1 + (zi_and (zi_shr x0 x2) 1))) (zi_w (x2 + 1))) else (some x1)
def zf_M_bits_l0 (x0 : Int) : Nat → Int → Int → Option (Int)
  | 0, _, _ => none
  | n + 1, x1, x2 => zf_M_bits_l0_b x0 (zf_M_bits_l0 x0 n) x1 x2
def zf_M_bits (x0 : Int) : Option (Int) := (zf_M_bits_l0 x0 zi_fu 0 0).bind fun q2 => (some q2)
theorem zd257_0 : decode zxm257.2.1 0 = .ok (.iconst 0, 1) := by decide +kernel
theorem zd257_1 : decode zxm257.2.1 1 = .ok (.istore_n 1, 1) := by decide +kernel
theorem zd257_2 : decode zxm257.2.1 2 = .ok (.iconst 0, 1) := by decide +kernel
theorem zd257_3 : decode zxm257.2.1 3 = .ok (.istore_n 2, 1) := by decide +kernel
theorem zd257_4 : decode zxm257.2.1 4 = .ok (.iload_n 2, 1) := by decide +kernel
theorem zd257_5 : decode zxm257.2.1 5 = .ok (.bipush 24, 2) := by decide +kernel
theorem zd257_7 : decode zxm257.2.1 7 = .ok (.if_icmp .ge 17, 3) := by decide +kernel
theorem zd257_10 : decode zxm257.2.1 10 = .ok (.iload_n 1, 1) := by decide +kernel
theorem zd257_11 : decode zxm257.2.1 11 = .ok (.iload_n 0, 1) := by decide +kernel
theorem zd257_12 : decode zxm257.2.1 12 = .ok (.iload_n 2, 1) := by decide +kernel
theorem zd257_13 : decode zxm257.2.1 13 = .ok (.ishr, 1) := by decide +kernel
theorem zd257_14 : decode zxm257.2.1 14 = .ok (.iconst 1, 1) := by decide +kernel
theorem zd257_15 : decode zxm257.2.1 15 = .ok (.iand, 1) := by decide +kernel
theorem zd257_16 : decode zxm257.2.1 16 = .ok (.iadd, 1) := by decide +kernel
theorem zd257_17 : decode zxm257.2.1 17 = .ok (.istore_n 1, 1) := by decide +kernel
theorem zd257_18 : decode zxm257.2.1 18 = .ok (.iinc 2 1, 3) := by decide +kernel
theorem zd257_21 : decode zxm257.2.1 21 = .ok (.goto (-17), 3) := by decide +kernel
theorem zd257_24 : decode zxm257.2.1 24 = .ok (.iload_n 1, 1) := by decide +kernel
theorem zd257_25 : decode zxm257.2.1 25 = .ok (.ireturn, 1) := by decide +kernel
theorem zt_M_bits {x0 : Int} {o : Int} (h : zf_M_bits x0 = some o) : zv_Fn z_TB z_cl z_KX zy_M_bits zxm257 (0, 0) [.inl x0] [] [] (some o) [] [] := zv_meth (K := (z_KF13, z_KC13, z_KL13, z_KT13, [], [], [], none)) (FT := z_FT) (MT := z_MT) (n := 1) zxp257 (z_ks13 _ (fun _ h => List.mem_cons_of_mem _ h) _ _ _ _ (fun j r h _ => by cases h)) (fun _ _ => zs_KX_p) zyw_M_bits (fun va F G h => by obtain ⟨rfl, _⟩ := h; rfl) (fun va F G h => by obtain ⟨rfl, _⟩ := h; rfl) rfl fun good va F G hB hret hvret hP => by
  obtain ⟨rfl, rfl, rfl⟩ := hP
  have l0 : ∀ (n : Nat) (x0 : Int) (x1 : Int) (x2 : Int) (q : Int), zf_M_bits_l0 x0 n x1 x2 = some q → (good 24 [.inr 1000, .inl q, .inr 1000] [] [] []) → good 4 [.inl x0, .inl x1, .inl x2] [] [] [] := by
    intro n
    induction n with
    | zero => intro x0 x1 x2 q h; exact absurd (show none = some q from h) (fun h => by cases h)
    | succ n ih =>
      intro x0 x1 x2 q h hK
      replace h : zf_M_bits_l0_b x0 (zf_M_bits_l0 x0 n) x1 x2 = some q := h
      unfold zf_M_bits_l0_b at h
      refine zv_ild hB zd257_4 rfl rfl ?_
      refine zv_con hB zd257_5 rfl ?_
      refine zv_cge hB zd257_7 rfl (fun hc1 => ?_) (fun hc1 => ?_)
      · rw [if_neg (Int.not_lt.mpr hc1)] at h
        have hq := Option.some.inj h
        subst hq
        refine zv_wk hB (L' := [.inr 1000, .inl x1, .inr 1000]) (F' := []) ⟨fun (h : zv_is (.inr 1000)) => (Nat.lt_irrefl 1000 h).elim, fun _ => rfl, fun (h : zv_is (.inr 1000)) => (Nat.lt_irrefl 1000 h).elim, trivial⟩ trivial ?_
        exact hK
      · rw [if_pos hc1] at h
        refine zv_ild hB zd257_10 rfl rfl ?_
        refine zv_ild hB zd257_11 rfl rfl ?_
        refine zv_ild hB zd257_12 rfl rfl ?_
        refine zv_shrw hB zd257_13 ?_
        refine zv_con hB zd257_14 rfl ?_
        refine zv_andw hB zd257_15 ?_
        refine zv_addw hB zd257_16 ?_
        refine zv_ist hB zd257_17 rfl rfl rfl ?_
        refine zv_iincw hB zd257_18 rfl rfl ?_
        refine zv_goto hB zd257_21 rfl ?_
        exact ih _ _ _ q h hK
  unfold zf_M_bits at h
  refine zv_con hB zd257_0 rfl ?_
  refine zv_ist hB zd257_1 rfl rfl rfl ?_
  refine zv_con hB zd257_2 rfl ?_
  refine zv_ist hB zd257_3 rfl rfl rfl ?_
  obtain ⟨q2, hq2, h⟩ := zi_bind h
  refine l0 _ _ _ _ q2 hq2 ?_
  show good 24 [.inr 1000, .inl q2, .inr 1000] [] [] []
  refine zv_ild hB zd257_24 rfl rfl ?_
  have hw := Option.some.inj h
  subst hw
  exact hret _ _ _ _ _ zd257_25 (by trivial) ⟨rfl, rfl, rfl⟩
/-! M_max (II)I -/
-- names: 
-- fields: ; arrays: ; out: [('ret', None)]
abbrev zy_M_max : zNL := (0, [], [], [], [])
theorem zyw_M_max : zv_wf zy_M_max = true := by decide +kernel
theorem zye_M_max : zv_ek2 zy_M_max = true := by decide +kernel
def zf_M_max (x0 : Int) (x1 : Int) : Option (Int) := if x1 < x0 then (some x0) else (some x1)
theorem zd258_0 : decode zxm258.2.1 0 = .ok (.iload_n 0, 1) := by decide +kernel
theorem zd258_1 : decode zxm258.2.1 1 = .ok (.iload_n 1, 1) := by decide +kernel
theorem zd258_2 : decode zxm258.2.1 2 = .ok (.if_icmp .le 7, 3) := by decide +kernel
theorem zd258_5 : decode zxm258.2.1 5 = .ok (.iload_n 0, 1) := by decide +kernel
theorem zd258_6 : decode zxm258.2.1 6 = .ok (.goto 4, 3) := by decide +kernel
theorem zd258_9 : decode zxm258.2.1 9 = .ok (.iload_n 1, 1) := by decide +kernel
theorem zd258_10 : decode zxm258.2.1 10 = .ok (.ireturn, 1) := by decide +kernel
theorem zt_M_max {x0 : Int} {x1 : Int} {o : Int} (h : zf_M_max x0 x1 = some o) : zv_Fn z_TB z_cl z_KX zy_M_max zxm258 (0, 0) [.inl x0, .inl x1] [] [] (some o) [] [] := zv_meth (K := (z_KF13, z_KC13, z_KL13, z_KT13, [], [], [], none)) (FT := z_FT) (MT := z_MT) (n := 2) zxp258 (z_ks13 _ (fun _ h => List.mem_cons_of_mem _ h) _ _ _ _ (fun j r h _ => by cases h)) (fun _ _ => zs_KX_p) zyw_M_max (fun va F G h => by obtain ⟨rfl, _⟩ := h; rfl) (fun va F G h => by obtain ⟨rfl, _⟩ := h; rfl) rfl fun good va F G hB hret hvret hP => by
  obtain ⟨rfl, rfl, rfl⟩ := hP
  unfold zf_M_max at h
  refine zv_ild hB zd258_0 rfl rfl ?_
  refine zv_ild hB zd258_1 rfl rfl ?_
  refine zv_cle hB zd258_2 rfl (fun hc1 => ?_) (fun hc1 => ?_)
  · rw [if_neg (Int.not_lt.mpr hc1)] at h
    refine zv_ild hB zd258_9 rfl rfl ?_
    have hw := Option.some.inj h
    subst hw
    exact hret _ _ _ _ _ zd258_10 (by trivial) ⟨rfl, rfl, rfl⟩
  · rw [if_pos hc1] at h
    refine zv_ild hB zd258_5 rfl rfl ?_
    refine zv_goto hB zd258_6 rfl ?_
    have hw := Option.some.inj h
    subst hw
    exact hret _ _ _ _ _ zd258_10 (by trivial) ⟨rfl, rfl, rfl⟩
/-! M_laysFigures ()V -/
-- names: 0 StarTalesModel('arg', 0), 1 (0, 24)(0, 12, 28)
-- fields: f0 = 0.figures_, f1 = 0.largest_, f2 = 0.seen0_; arrays: g0 = 1; out: [('f', 0), ('f', 1)]
abbrev zy_M_laysFigures : zNL := (2, [(0, 12)], [(0, 12, 29, 0), (0, 12, 30, 1), (0, 12, 27, 2)], [(0, 12, 28, 1)], [(1, 0, 24, 0)])
theorem zyw_M_laysFigures : zv_wf zy_M_laysFigures = true := by decide +kernel
theorem zye_M_laysFigures : zv_ek2 zy_M_laysFigures = true := by decide +kernel
def zf_M_laysFigures_l0_b (g0 : (Int → Int)) (rec : Int → Int → Int → Int → Option (Int × Int)) (x1 : Int) (x2 : Int) (f0 : Int) (f1 : Int) : Option (Int × Int) := if x2 < 24 then ((zf_M_has x1 x2).bind fun r2 => (if r2 = 0 then (rec x1 (zi_w (x2 + 1)) f0 f1) else ((zf_M_figureOf x2 g0).bind fun r4 => ((zf_M_bits r4).bind fun r5 => ((zf_M_max f1 r5).bind fun r6 => (rec (zi_and x1 (zi_xor r4 (-1))) (zi_w (x2 + 1)) (zi_w (f0 + 1)) r6)))))) else (some (f0, f1))
def zf_M_laysFigures_l0 (g0 : (Int → Int)) : Nat → Int → Int → Int → Int → Option (Int × Int)
  | 0, _, _, _, _ => none
  | n + 1, x1, x2, f0, f1 => zf_M_laysFigures_l0_b g0 (zf_M_laysFigures_l0 g0 n) x1 x2 f0 f1
def zf_M_laysFigures (f0 : Int) (f1 : Int) (f2 : Int) (g0 : (Int → Int)) : Option (Int × Int) := (zf_M_laysFigures_l0 g0 zi_fu f2 0 0 0).bind fun q7 => (some (q7.1, q7.2))
theorem zd255_0 : decode zxm255.2.1 0 = .ok (.aload_n 0, 1) := by decide +kernel
theorem zd255_1 : decode zxm255.2.1 1 = .ok (.iconst 0, 1) := by decide +kernel
theorem zd255_2 : decode zxm255.2.1 2 = .ok (.putfield 312, 3) := by decide +kernel
theorem zd255_5 : decode zxm255.2.1 5 = .ok (.aload_n 0, 1) := by decide +kernel
theorem zd255_6 : decode zxm255.2.1 6 = .ok (.iconst 0, 1) := by decide +kernel
theorem zd255_7 : decode zxm255.2.1 7 = .ok (.putfield 315, 3) := by decide +kernel
theorem zd255_10 : decode zxm255.2.1 10 = .ok (.aload_n 0, 1) := by decide +kernel
theorem zd255_11 : decode zxm255.2.1 11 = .ok (.getfield 303, 3) := by decide +kernel
theorem zd255_14 : decode zxm255.2.1 14 = .ok (.istore_n 1, 1) := by decide +kernel
theorem zd255_15 : decode zxm255.2.1 15 = .ok (.iconst 0, 1) := by decide +kernel
theorem zd255_16 : decode zxm255.2.1 16 = .ok (.istore_n 2, 1) := by decide +kernel
theorem zd255_17 : decode zxm255.2.1 17 = .ok (.iload_n 2, 1) := by decide +kernel
theorem zd255_18 : decode zxm255.2.1 18 = .ok (.bipush 24, 2) := by decide +kernel
theorem zd255_20 : decode zxm255.2.1 20 = .ok (.if_icmp .ge 57, 3) := by decide +kernel
theorem zd255_23 : decode zxm255.2.1 23 = .ok (.iload_n 1, 1) := by decide +kernel
theorem zd255_24 : decode zxm255.2.1 24 = .ok (.iload_n 2, 1) := by decide +kernel
theorem zd255_25 : decode zxm255.2.1 25 = .ok (.invokestatic 138, 3) := by decide +kernel
theorem zd255_28 : decode zxm255.2.1 28 = .ok (.ifCond .ne 6, 3) := by decide +kernel
theorem zd255_31 : decode zxm255.2.1 31 = .ok (.goto 40, 3) := by decide +kernel
theorem zd255_34 : decode zxm255.2.1 34 = .ok (.aload_n 0, 1) := by decide +kernel
theorem zd255_35 : decode zxm255.2.1 35 = .ok (.iload_n 2, 1) := by decide +kernel
theorem zd255_36 : decode zxm255.2.1 36 = .ok (.invokevirtual 318, 3) := by decide +kernel
theorem zd255_39 : decode zxm255.2.1 39 = .ok (.istore_n 3, 1) := by decide +kernel
theorem zd255_40 : decode zxm255.2.1 40 = .ok (.iload_n 1, 1) := by decide +kernel
theorem zd255_41 : decode zxm255.2.1 41 = .ok (.iload_n 3, 1) := by decide +kernel
theorem zd255_42 : decode zxm255.2.1 42 = .ok (.iconst (-1), 1) := by decide +kernel
theorem zd255_43 : decode zxm255.2.1 43 = .ok (.ixor, 1) := by decide +kernel
theorem zd255_44 : decode zxm255.2.1 44 = .ok (.iand, 1) := by decide +kernel
theorem zd255_45 : decode zxm255.2.1 45 = .ok (.istore_n 1, 1) := by decide +kernel
theorem zd255_46 : decode zxm255.2.1 46 = .ok (.aload_n 0, 1) := by decide +kernel
theorem zd255_47 : decode zxm255.2.1 47 = .ok (.aload_n 0, 1) := by decide +kernel
theorem zd255_48 : decode zxm255.2.1 48 = .ok (.getfield 312, 3) := by decide +kernel
theorem zd255_51 : decode zxm255.2.1 51 = .ok (.iconst 1, 1) := by decide +kernel
theorem zd255_52 : decode zxm255.2.1 52 = .ok (.iadd, 1) := by decide +kernel
theorem zd255_53 : decode zxm255.2.1 53 = .ok (.putfield 312, 3) := by decide +kernel
theorem zd255_56 : decode zxm255.2.1 56 = .ok (.aload_n 0, 1) := by decide +kernel
theorem zd255_57 : decode zxm255.2.1 57 = .ok (.aload_n 0, 1) := by decide +kernel
theorem zd255_58 : decode zxm255.2.1 58 = .ok (.getfield 315, 3) := by decide +kernel
theorem zd255_61 : decode zxm255.2.1 61 = .ok (.iload_n 3, 1) := by decide +kernel
theorem zd255_62 : decode zxm255.2.1 62 = .ok (.invokestatic 321, 3) := by decide +kernel
theorem zd255_65 : decode zxm255.2.1 65 = .ok (.invokestatic 324, 3) := by decide +kernel
theorem zd255_68 : decode zxm255.2.1 68 = .ok (.putfield 315, 3) := by decide +kernel
theorem zd255_71 : decode zxm255.2.1 71 = .ok (.iinc 2 1, 3) := by decide +kernel
theorem zd255_74 : decode zxm255.2.1 74 = .ok (.goto (-57), 3) := by decide +kernel
theorem zd255_77 : decode zxm255.2.1 77 = .ok (.return_, 1) := by decide +kernel
theorem zt_M_laysFigures {f0 : Int} {f1 : Int} {f2 : Int} {g0 : (Int → Int)} {o : Int × Int} (h : zf_M_laysFigures f0 f1 f2 g0 = some o) : zv_Fn z_TB z_cl z_KX zy_M_laysFigures zxm255 (2, 120) [.inr 0] [.inl f0, .inl f1, .inl f2] [g0] none [.inl o.1, .inl o.2, .inl f2] [g0] := zv_meth (K := (z_KF13, z_KC13, z_KL13, z_KT13, [], [], [], none)) (FT := z_FT) (MT := z_MT) (n := 1) zxp255 (z_ks13 _ (fun _ h => List.mem_cons_of_mem _ h) _ _ _ _ (fun j r h _ => by cases h)) (fun _ _ => zs_KX_p) zyw_M_laysFigures (fun va F G h => by obtain ⟨rfl, _⟩ := h; rfl) (fun va F G h => by obtain ⟨rfl, _⟩ := h; rfl) rfl fun good va F G hB hret hvret hP => by
  obtain ⟨rfl, rfl, rfl⟩ := hP
  have l0 : ∀ (n : Nat) (x1 : Int) (x2 : Int) (f0 : Int) (f1 : Int) (q : Int × Int), zf_M_laysFigures_l0 g0 n x1 x2 f0 f1 = some q → (good 77 [.inr 1000, .inr 1000, .inr 1000, .inr 1000] [] [.inl q.1, .inl q.2, .inl f2] [g0]) → good 17 [.inr 0, .inl x1, .inl x2, .inr 1000] [] [.inl f0, .inl f1, .inl f2] [g0] := by
    intro n
    induction n with
    | zero => intro x1 x2 f0 f1 q h; exact absurd (show none = some q from h) (fun h => by cases h)
    | succ n ih =>
      intro x1 x2 f0 f1 q h hK
      replace h : zf_M_laysFigures_l0_b g0 (zf_M_laysFigures_l0 g0 n) x1 x2 f0 f1 = some q := h
      unfold zf_M_laysFigures_l0_b at h
      refine zv_ild hB zd255_17 rfl rfl ?_
      refine zv_con hB zd255_18 rfl ?_
      refine zv_cge hB zd255_20 rfl (fun hc1 => ?_) (fun hc1 => ?_)
      · rw [if_neg (Int.not_lt.mpr hc1)] at h
        have hq := Option.some.inj h
        subst hq
        refine zv_wk hB (L' := [.inr 1000, .inr 1000, .inr 1000, .inr 1000]) (F' := [.inl f0, .inl f1, .inl f2]) ⟨fun (h : zv_is (.inr 1000)) => (Nat.lt_irrefl 1000 h).elim, fun (h : zv_is (.inr 1000)) => (Nat.lt_irrefl 1000 h).elim, fun (h : zv_is (.inr 1000)) => (Nat.lt_irrefl 1000 h).elim, fun (h : zv_is (.inr 1000)) => (Nat.lt_irrefl 1000 h).elim, trivial⟩ ⟨fun _ => rfl, fun _ => rfl, fun _ => rfl, trivial⟩ ?_
        exact hK
      · rw [if_pos hc1] at h
        refine zv_ild hB zd255_23 rfl rfl ?_
        refine zv_ild hB zd255_24 rfl rfl ?_
        obtain ⟨r2, hr2, h⟩ := zi_bind h
        refine zv_cs hB (zv_emq (va2 := [.inl x1, .inl x2]) (F := [.inl f0, .inl f1, .inl f2]) (F' := [.inl f0, .inl f1, .inl f2]) (G := [g0]) (G' := [g0]) (ρ := []) (φ := []) (ψ := []) [none, none, none] [none] zyw_M_has zyw_M_laysFigures zye_M_laysFigures (by decide +kernel) (zt_M_has hr2) trivial trivial rfl rfl rfl rfl rfl rfl rfl) zd255_25 zxt204 rfl (by decide) (by decide) rfl ?_
        refine zv_zne hB zd255_28 rfl (fun hc3 => ?_) (fun hc3 => ?_)
        · rw [if_neg hc3] at h
          refine zv_ald hB zd255_34 rfl rfl rfl ?_
          refine zv_ild hB zd255_35 rfl rfl ?_
          obtain ⟨r4, hr4, h⟩ := zi_bind h
          refine zv_cv hB (zv_emq (va2 := [.inr 0, .inl x2]) (F := [.inl f0, .inl f1, .inl f2]) (F' := [.inl f0, .inl f1, .inl f2]) (G := [g0]) (G' := [g0]) (ρ := [0, 1]) (φ := []) (ψ := [0]) [none, none, none] [some 0] zyw_M_figureOf zyw_M_laysFigures zye_M_laysFigures (by decide +kernel) (zt_M_figureOf hr4) trivial ⟨rfl, trivial⟩ rfl rfl rfl rfl rfl rfl rfl) zd255_36 zxt256 rfl (by decide) (by decide) rfl ?_
          refine zv_ist hB zd255_39 rfl rfl rfl ?_
          refine zv_ild hB zd255_40 rfl rfl ?_
          refine zv_ild hB zd255_41 rfl rfl ?_
          refine zv_con hB zd255_42 rfl ?_
          refine zv_xorw hB zd255_43 ?_
          refine zv_andw hB zd255_44 ?_
          refine zv_ist hB zd255_45 rfl rfl rfl ?_
          refine zv_ald hB zd255_46 rfl rfl rfl ?_
          refine zv_ald hB zd255_47 rfl rfl rfl ?_
          refine zv_getf hB zd255_48 rfl rfl (fun _ _ => ?_)
          refine zv_con hB zd255_51 rfl ?_
          refine zv_addw hB zd255_52 ?_
          refine zv_putf hB zd255_53 rfl rfl (fun h => by cases h) rfl ?_
          refine zv_ald hB zd255_56 rfl rfl rfl ?_
          refine zv_ald hB zd255_57 rfl rfl rfl ?_
          refine zv_getf hB zd255_58 rfl rfl (fun _ _ => ?_)
          refine zv_ild hB zd255_61 rfl rfl ?_
          obtain ⟨r5, hr5, h⟩ := zi_bind h
          refine zv_cs hB (zv_emq (va2 := [.inl r4]) (F := [.inl (zi_w (f0 + 1)), .inl f1, .inl f2]) (F' := [.inl (zi_w (f0 + 1)), .inl f1, .inl f2]) (G := [g0]) (G' := [g0]) (ρ := []) (φ := []) (ψ := []) [none, none, none] [none] zyw_M_bits zyw_M_laysFigures zye_M_laysFigures (by decide +kernel) (zt_M_bits hr5) trivial trivial rfl rfl rfl rfl rfl rfl rfl) zd255_62 zxt257 rfl (by decide) (by decide) rfl ?_
          obtain ⟨r6, hr6, h⟩ := zi_bind h
          refine zv_cs hB (zv_emq (va2 := [.inl f1, .inl r5]) (F := [.inl (zi_w (f0 + 1)), .inl f1, .inl f2]) (F' := [.inl (zi_w (f0 + 1)), .inl f1, .inl f2]) (G := [g0]) (G' := [g0]) (ρ := []) (φ := []) (ψ := []) [none, none, none] [none] zyw_M_max zyw_M_laysFigures zye_M_laysFigures (by decide +kernel) (zt_M_max hr6) trivial trivial rfl rfl rfl rfl rfl rfl rfl) zd255_65 zxt258 rfl (by decide) (by decide) rfl ?_
          refine zv_putf hB zd255_68 rfl rfl (fun h => by cases h) rfl ?_
          refine zv_iincw hB zd255_71 rfl rfl ?_
          refine zv_goto hB zd255_74 rfl ?_
          refine zv_wk hB (L' := [.inr 0, .inl (zi_and x1 (zi_xor r4 (-1))), .inl (zi_w (x2 + 1)), .inr 1000]) (F' := [.inl (zi_w (f0 + 1)), .inl r6, .inl f2]) ⟨fun _ => rfl, fun _ => rfl, fun _ => rfl, fun (h : zv_is (.inr 1000)) => (Nat.lt_irrefl 1000 h).elim, trivial⟩ ⟨fun _ => rfl, fun _ => rfl, fun _ => rfl, trivial⟩ ?_
          exact ih _ _ _ _ q h hK
        · rw [if_pos hc3] at h
          refine zv_goto hB zd255_31 rfl ?_
          refine zv_iincw hB zd255_71 rfl rfl ?_
          refine zv_goto hB zd255_74 rfl ?_
          exact ih _ _ _ _ q h hK
  unfold zf_M_laysFigures at h
  refine zv_ald hB zd255_0 rfl rfl rfl ?_
  refine zv_con hB zd255_1 rfl ?_
  refine zv_putf hB zd255_2 rfl rfl (fun h => by cases h) rfl ?_
  refine zv_ald hB zd255_5 rfl rfl rfl ?_
  refine zv_con hB zd255_6 rfl ?_
  refine zv_putf hB zd255_7 rfl rfl (fun h => by cases h) rfl ?_
  refine zv_ald hB zd255_10 rfl rfl rfl ?_
  refine zv_getf hB zd255_11 rfl rfl (fun _ _ => ?_)
  refine zv_ist hB zd255_14 rfl rfl rfl ?_
  refine zv_con hB zd255_15 rfl ?_
  refine zv_ist hB zd255_16 rfl rfl rfl ?_
  obtain ⟨q7, hq7, h⟩ := zi_bind h
  refine l0 _ _ _ _ _ q7 hq7 ?_
  show good 77 [.inr 1000, .inr 1000, .inr 1000, .inr 1000] [] [.inl q7.1, .inl q7.2, .inl f2] [g0]
  have hw := Option.some.inj h
  subst hw
  exact hvret _ _ _ _ zd255_77 trivial ⟨rfl, rfl, rfl⟩
end
section
/-! Methods as functions, and that they do what these do. -/
/-! M_mostLegs ()I -/
-- names: 0 StarTalesModel('arg', 0), 1 (0, 24)(0, 12, 28)
-- fields: f0 = 0.seen0_; arrays: g0 = 1; out: [('ret', None)]
abbrev zy_M_mostLegs : zNL := (2, [(0, 12)], [(0, 12, 27, 0)], [(0, 12, 28, 1)], [(1, 0, 24, 0)])
theorem zyw_M_mostLegs : zv_wf zy_M_mostLegs = true := by decide +kernel
theorem zye_M_mostLegs : zv_ek2 zy_M_mostLegs = true := by decide +kernel
def zf_M_mostLegs_l0_b (f0 : Int) (g0 : (Int → Int)) (rec : Int → Int → Option (Int)) (x1 : Int) (x2 : Int) : Option (Int) := if x2 < 24 then ((zf_M_has f0 x2).bind fun r2 => (if r2 = 0 then (rec x1 (zi_w (x2 + 1))) else (if x1 = (-1) then (rec x2 (zi_w (x2 + 1))) else (cond (zi_ix x2 24) ((zf_M_bits (g0 x2)).bind fun r6 => (cond (zi_ix x1 24) ((zf_M_bits (g0 x1)).bind fun r8 => (if r8 < r6 then (rec x2 (zi_w (x2 + 1))) else (rec x1 (zi_w (x2 + 1))))) none)) none)))) else (some x1)
def zf_M_mostLegs_l0 (f0 : Int) (g0 : (Int → Int)) : Nat → Int → Int → Option (Int)
  | 0, _, _ => none
  | n + 1, x1, x2 => zf_M_mostLegs_l0_b f0 g0 (zf_M_mostLegs_l0 f0 g0 n) x1 x2
def zf_M_mostLegs (f0 : Int) (g0 : (Int → Int)) : Option (Int) := (zf_M_mostLegs_l0 f0 g0 zi_fu (-1) 0).bind fun q10 => (some q10)
theorem zd259_0 : decode zxm259.2.1 0 = .ok (.iconst (-1), 1) := by decide +kernel
theorem zd259_1 : decode zxm259.2.1 1 = .ok (.istore_n 1, 1) := by decide +kernel
theorem zd259_2 : decode zxm259.2.1 2 = .ok (.iconst 0, 1) := by decide +kernel
theorem zd259_3 : decode zxm259.2.1 3 = .ok (.istore_n 2, 1) := by decide +kernel
theorem zd259_4 : decode zxm259.2.1 4 = .ok (.iload_n 2, 1) := by decide +kernel
theorem zd259_5 : decode zxm259.2.1 5 = .ok (.bipush 24, 2) := by decide +kernel
theorem zd259_7 : decode zxm259.2.1 7 = .ok (.if_icmp .ge 48, 3) := by decide +kernel
theorem zd259_10 : decode zxm259.2.1 10 = .ok (.aload_n 0, 1) := by decide +kernel
theorem zd259_11 : decode zxm259.2.1 11 = .ok (.getfield 303, 3) := by decide +kernel
theorem zd259_14 : decode zxm259.2.1 14 = .ok (.iload_n 2, 1) := by decide +kernel
theorem zd259_15 : decode zxm259.2.1 15 = .ok (.invokestatic 138, 3) := by decide +kernel
theorem zd259_18 : decode zxm259.2.1 18 = .ok (.ifCond .eq 31, 3) := by decide +kernel
theorem zd259_21 : decode zxm259.2.1 21 = .ok (.iload_n 1, 1) := by decide +kernel
theorem zd259_22 : decode zxm259.2.1 22 = .ok (.iconst (-1), 1) := by decide +kernel
theorem zd259_23 : decode zxm259.2.1 23 = .ok (.if_icmp .eq 24, 3) := by decide +kernel
theorem zd259_26 : decode zxm259.2.1 26 = .ok (.aload_n 0, 1) := by decide +kernel
theorem zd259_27 : decode zxm259.2.1 27 = .ok (.getfield 62, 3) := by decide +kernel
theorem zd259_30 : decode zxm259.2.1 30 = .ok (.iload_n 2, 1) := by decide +kernel
theorem zd259_31 : decode zxm259.2.1 31 = .ok (.iaload, 1) := by decide +kernel
theorem zd259_32 : decode zxm259.2.1 32 = .ok (.invokestatic 321, 3) := by decide +kernel
theorem zd259_35 : decode zxm259.2.1 35 = .ok (.aload_n 0, 1) := by decide +kernel
theorem zd259_36 : decode zxm259.2.1 36 = .ok (.getfield 62, 3) := by decide +kernel
theorem zd259_39 : decode zxm259.2.1 39 = .ok (.iload_n 1, 1) := by decide +kernel
theorem zd259_40 : decode zxm259.2.1 40 = .ok (.iaload, 1) := by decide +kernel
theorem zd259_41 : decode zxm259.2.1 41 = .ok (.invokestatic 321, 3) := by decide +kernel
theorem zd259_44 : decode zxm259.2.1 44 = .ok (.if_icmp .le 5, 3) := by decide +kernel
theorem zd259_47 : decode zxm259.2.1 47 = .ok (.iload_n 2, 1) := by decide +kernel
theorem zd259_48 : decode zxm259.2.1 48 = .ok (.istore_n 1, 1) := by decide +kernel
theorem zd259_49 : decode zxm259.2.1 49 = .ok (.iinc 2 1, 3) := by decide +kernel
theorem zd259_52 : decode zxm259.2.1 52 = .ok (.goto (-48), 3) := by decide +kernel
theorem zd259_55 : decode zxm259.2.1 55 = .ok (.iload_n 1, 1) := by decide +kernel
theorem zd259_56 : decode zxm259.2.1 56 = .ok (.ireturn, 1) := by decide +kernel
theorem zt_M_mostLegs {f0 : Int} {g0 : (Int → Int)} {o : Int} (h : zf_M_mostLegs f0 g0 = some o) : zv_Fn z_TB z_cl z_KX zy_M_mostLegs zxm259 (1, 60) [.inr 0] [.inl f0] [g0] (some o) [.inl f0] [g0] := zv_meth (K := (z_KF13, z_KC13, z_KL13, z_KT13, [], [], [], none)) (FT := z_FT) (MT := z_MT) (n := 1) zxp259 (z_ks13 _ (fun _ h => List.mem_cons_of_mem _ h) _ _ _ _ (fun j r h _ => by cases h)) (fun _ _ => zs_KX_p) zyw_M_mostLegs (fun va F G h => by obtain ⟨rfl, _⟩ := h; rfl) (fun va F G h => by obtain ⟨rfl, _⟩ := h; rfl) rfl fun good va F G hB hret hvret hP => by
  obtain ⟨rfl, rfl, rfl⟩ := hP
  have l0 : ∀ (n : Nat) (x1 : Int) (x2 : Int) (q : Int), zf_M_mostLegs_l0 f0 g0 n x1 x2 = some q → (good 55 [.inr 1000, .inl q, .inr 1000] [] [.inl f0] [g0]) → good 4 [.inr 0, .inl x1, .inl x2] [] [.inl f0] [g0] := by
    intro n
    induction n with
    | zero => intro x1 x2 q h; exact absurd (show none = some q from h) (fun h => by cases h)
    | succ n ih =>
      intro x1 x2 q h hK
      replace h : zf_M_mostLegs_l0_b f0 g0 (zf_M_mostLegs_l0 f0 g0 n) x1 x2 = some q := h
      unfold zf_M_mostLegs_l0_b at h
      refine zv_ild hB zd259_4 rfl rfl ?_
      refine zv_con hB zd259_5 rfl ?_
      refine zv_cge hB zd259_7 rfl (fun hc1 => ?_) (fun hc1 => ?_)
      · rw [if_neg (Int.not_lt.mpr hc1)] at h
        have hq := Option.some.inj h
        subst hq
        refine zv_wk hB (L' := [.inr 1000, .inl x1, .inr 1000]) (F' := [.inl f0]) ⟨fun (h : zv_is (.inr 1000)) => (Nat.lt_irrefl 1000 h).elim, fun _ => rfl, fun (h : zv_is (.inr 1000)) => (Nat.lt_irrefl 1000 h).elim, trivial⟩ ⟨fun _ => rfl, trivial⟩ ?_
        exact hK
      · rw [if_pos hc1] at h
        refine zv_ald hB zd259_10 rfl rfl rfl ?_
        refine zv_getf hB zd259_11 rfl rfl (fun _ _ => ?_)
        refine zv_ild hB zd259_14 rfl rfl ?_
        obtain ⟨r2, hr2, h⟩ := zi_bind h
        refine zv_cs hB (zv_emq (va2 := [.inl f0, .inl x2]) (F := [.inl f0]) (F' := [.inl f0]) (G := [g0]) (G' := [g0]) (ρ := []) (φ := []) (ψ := []) [none] [none] zyw_M_has zyw_M_mostLegs zye_M_mostLegs (by decide +kernel) (zt_M_has hr2) trivial trivial rfl rfl rfl rfl rfl rfl rfl) zd259_15 zxt204 rfl (by decide) (by decide) rfl ?_
        refine zv_zeq hB zd259_18 rfl (fun hc3 => ?_) (fun hc3 => ?_)
        · rw [if_pos hc3] at h
          refine zv_iincw hB zd259_49 rfl rfl ?_
          refine zv_goto hB zd259_52 rfl ?_
          exact ih _ _ q h hK
        · rw [if_neg hc3] at h
          refine zv_ild hB zd259_21 rfl rfl ?_
          refine zv_con hB zd259_22 rfl ?_
          refine zv_ceq hB zd259_23 rfl (fun hc4 => ?_) (fun hc4 => ?_)
          · rw [if_pos hc4] at h
            refine zv_ild hB zd259_47 rfl rfl ?_
            refine zv_ist hB zd259_48 rfl rfl rfl ?_
            refine zv_iincw hB zd259_49 rfl rfl ?_
            refine zv_goto hB zd259_52 rfl ?_
            exact ih _ _ q h hK
          · rw [if_neg hc4] at h
            refine zv_ald hB zd259_26 rfl rfl rfl ?_
            refine zv_getr hB zd259_27 rfl ?_
            refine zv_ild hB zd259_30 rfl rfl ?_
            obtain ⟨c5, h⟩ := zi_if h
            refine zv_iald hB zd259_31 rfl rfl (zi_ix_ok c5).1 (zi_ix_ok c5).2 (fun _ _ => ?_)
            obtain ⟨r6, hr6, h⟩ := zi_bind h
            refine zv_cs hB (zv_emq (va2 := [.inl (g0 x2)]) (F := [.inl f0]) (F' := [.inl f0]) (G := [g0]) (G' := [g0]) (ρ := []) (φ := []) (ψ := []) [none] [none] zyw_M_bits zyw_M_mostLegs zye_M_mostLegs (by decide +kernel) (zt_M_bits hr6) trivial trivial rfl rfl rfl rfl rfl rfl rfl) zd259_32 zxt257 rfl (by decide) (by decide) rfl ?_
            refine zv_ald hB zd259_35 rfl rfl rfl ?_
            refine zv_getr hB zd259_36 rfl ?_
            refine zv_ild hB zd259_39 rfl rfl ?_
            obtain ⟨c7, h⟩ := zi_if h
            refine zv_iald hB zd259_40 rfl rfl (zi_ix_ok c7).1 (zi_ix_ok c7).2 (fun _ _ => ?_)
            obtain ⟨r8, hr8, h⟩ := zi_bind h
            refine zv_cs hB (zv_emq (va2 := [.inl (g0 x1)]) (F := [.inl f0]) (F' := [.inl f0]) (G := [g0]) (G' := [g0]) (ρ := []) (φ := []) (ψ := []) [none] [none] zyw_M_bits zyw_M_mostLegs zye_M_mostLegs (by decide +kernel) (zt_M_bits hr8) trivial trivial rfl rfl rfl rfl rfl rfl rfl) zd259_41 zxt257 rfl (by decide) (by decide) rfl ?_
            refine zv_cle hB zd259_44 rfl (fun hc9 => ?_) (fun hc9 => ?_)
            · rw [if_neg (Int.not_lt.mpr hc9)] at h
              refine zv_iincw hB zd259_49 rfl rfl ?_
              refine zv_goto hB zd259_52 rfl ?_
              exact ih _ _ q h hK
            · rw [if_pos hc9] at h
              refine zv_ild hB zd259_47 rfl rfl ?_
              refine zv_ist hB zd259_48 rfl rfl rfl ?_
              refine zv_iincw hB zd259_49 rfl rfl ?_
              refine zv_goto hB zd259_52 rfl ?_
              exact ih _ _ q h hK
  unfold zf_M_mostLegs at h
  refine zv_con hB zd259_0 rfl ?_
  refine zv_ist hB zd259_1 rfl rfl rfl ?_
  refine zv_con hB zd259_2 rfl ?_
  refine zv_ist hB zd259_3 rfl rfl rfl ?_
  obtain ⟨q10, hq10, h⟩ := zi_bind h
  refine l0 _ _ _ q10 hq10 ?_
  show good 55 [.inr 1000, .inl q10, .inr 1000] [] [.inl f0] [g0]
  refine zv_ild hB zd259_55 rfl rfl ?_
  have hw := Option.some.inj h
  subst hw
  exact hret _ _ _ _ _ zd259_56 (by trivial) ⟨rfl, rfl, rfl⟩
/-! M_lineMany ()I -/
-- names: 0 StarTalesModel('arg', 0), 1 (0, 24)(0, 12, 28)
-- fields: ; arrays: g0 = 1; out: [('ret', None)]
abbrev zy_M_lineMany : zNL := (2, [(0, 12)], [], [(0, 12, 28, 1)], [(1, 0, 24, 0)])
theorem zyw_M_lineMany : zv_wf zy_M_lineMany = true := by decide +kernel
theorem zye_M_lineMany : zv_ek2 zy_M_lineMany = true := by decide +kernel
def zf_M_lineMany_l0_b (g0 : (Int → Int)) (rec : Int → Int → Option (Int)) (x1 : Int) (x2 : Int) : Option (Int) := if x2 < 24 then (cond (zi_ix x2 24) ((zf_M_bits (g0 x2)).bind fun r3 => (rec (zi_w (x1 + r3)) (zi_w (x2 + 1)))) none) else (some x1)
def zf_M_lineMany_l0 (g0 : (Int → Int)) : Nat → Int → Int → Option (Int)
  | 0, _, _ => none
  | n + 1, x1, x2 => zf_M_lineMany_l0_b g0 (zf_M_lineMany_l0 g0 n) x1 x2
def zf_M_lineMany (g0 : (Int → Int)) : Option (Int) := (zf_M_lineMany_l0 g0 zi_fu 0 0).bind fun q4 => (some (zi_div q4 2))
theorem zd260_0 : decode zxm260.2.1 0 = .ok (.iconst 0, 1) := by decide +kernel
theorem zd260_1 : decode zxm260.2.1 1 = .ok (.istore_n 1, 1) := by decide +kernel
theorem zd260_2 : decode zxm260.2.1 2 = .ok (.iconst 0, 1) := by decide +kernel
theorem zd260_3 : decode zxm260.2.1 3 = .ok (.istore_n 2, 1) := by decide +kernel
theorem zd260_4 : decode zxm260.2.1 4 = .ok (.iload_n 2, 1) := by decide +kernel
theorem zd260_5 : decode zxm260.2.1 5 = .ok (.bipush 24, 2) := by decide +kernel
theorem zd260_7 : decode zxm260.2.1 7 = .ok (.if_icmp .ge 21, 3) := by decide +kernel
theorem zd260_10 : decode zxm260.2.1 10 = .ok (.iload_n 1, 1) := by decide +kernel
theorem zd260_11 : decode zxm260.2.1 11 = .ok (.aload_n 0, 1) := by decide +kernel
theorem zd260_12 : decode zxm260.2.1 12 = .ok (.getfield 62, 3) := by decide +kernel
theorem zd260_15 : decode zxm260.2.1 15 = .ok (.iload_n 2, 1) := by decide +kernel
theorem zd260_16 : decode zxm260.2.1 16 = .ok (.iaload, 1) := by decide +kernel
theorem zd260_17 : decode zxm260.2.1 17 = .ok (.invokestatic 321, 3) := by decide +kernel
theorem zd260_20 : decode zxm260.2.1 20 = .ok (.iadd, 1) := by decide +kernel
theorem zd260_21 : decode zxm260.2.1 21 = .ok (.istore_n 1, 1) := by decide +kernel
theorem zd260_22 : decode zxm260.2.1 22 = .ok (.iinc 2 1, 3) := by decide +kernel
theorem zd260_25 : decode zxm260.2.1 25 = .ok (.goto (-21), 3) := by decide +kernel
theorem zd260_28 : decode zxm260.2.1 28 = .ok (.iload_n 1, 1) := by decide +kernel
theorem zd260_29 : decode zxm260.2.1 29 = .ok (.iconst 2, 1) := by decide +kernel
theorem zd260_30 : decode zxm260.2.1 30 = .ok (.idiv, 1) := by decide +kernel
theorem zd260_31 : decode zxm260.2.1 31 = .ok (.ireturn, 1) := by decide +kernel
theorem zt_M_lineMany {g0 : (Int → Int)} {o : Int} (h : zf_M_lineMany g0 = some o) : zv_Fn z_TB z_cl z_KX zy_M_lineMany zxm260 (1, 60) [.inr 0] [] [g0] (some o) [] [g0] := zv_meth (K := (z_KF13, z_KC13, z_KL13, z_KT13, [], [], [], none)) (FT := z_FT) (MT := z_MT) (n := 1) zxp260 (z_ks13 _ (fun _ h => List.mem_cons_of_mem _ h) _ _ _ _ (fun j r h _ => by cases h)) (fun _ _ => zs_KX_p) zyw_M_lineMany (fun va F G h => by obtain ⟨rfl, _⟩ := h; rfl) (fun va F G h => by obtain ⟨rfl, _⟩ := h; rfl) rfl fun good va F G hB hret hvret hP => by
  obtain ⟨rfl, rfl, rfl⟩ := hP
  have l0 : ∀ (n : Nat) (x1 : Int) (x2 : Int) (q : Int), zf_M_lineMany_l0 g0 n x1 x2 = some q → (good 28 [.inr 1000, .inl q, .inr 1000] [] [] [g0]) → good 4 [.inr 0, .inl x1, .inl x2] [] [] [g0] := by
    intro n
    induction n with
    | zero => intro x1 x2 q h; exact absurd (show none = some q from h) (fun h => by cases h)
    | succ n ih =>
      intro x1 x2 q h hK
      replace h : zf_M_lineMany_l0_b g0 (zf_M_lineMany_l0 g0 n) x1 x2 = some q := h
      unfold zf_M_lineMany_l0_b at h
      refine zv_ild hB zd260_4 rfl rfl ?_
      refine zv_con hB zd260_5 rfl ?_
      refine zv_cge hB zd260_7 rfl (fun hc1 => ?_) (fun hc1 => ?_)
      · rw [if_neg (Int.not_lt.mpr hc1)] at h
        have hq := Option.some.inj h
        subst hq
        refine zv_wk hB (L' := [.inr 1000, .inl x1, .inr 1000]) (F' := []) ⟨fun (h : zv_is (.inr 1000)) => (Nat.lt_irrefl 1000 h).elim, fun _ => rfl, fun (h : zv_is (.inr 1000)) => (Nat.lt_irrefl 1000 h).elim, trivial⟩ trivial ?_
        exact hK
      · rw [if_pos hc1] at h
        refine zv_ild hB zd260_10 rfl rfl ?_
        refine zv_ald hB zd260_11 rfl rfl rfl ?_
        refine zv_getr hB zd260_12 rfl ?_
        refine zv_ild hB zd260_15 rfl rfl ?_
        obtain ⟨c2, h⟩ := zi_if h
        refine zv_iald hB zd260_16 rfl rfl (zi_ix_ok c2).1 (zi_ix_ok c2).2 (fun _ _ => ?_)
        obtain ⟨r3, hr3, h⟩ := zi_bind h
        refine zv_cs hB (zv_emq (va2 := [.inl (g0 x2)]) (F := []) (F' := []) (G := [g0]) (G' := [g0]) (ρ := []) (φ := []) (ψ := []) [] [none] zyw_M_bits zyw_M_lineMany zye_M_lineMany (by decide +kernel) (zt_M_bits hr3) trivial trivial rfl rfl rfl rfl rfl rfl rfl) zd260_17 zxt257 rfl (by decide) (by decide) rfl ?_
        refine zv_addw hB zd260_20 ?_
        refine zv_ist hB zd260_21 rfl rfl rfl ?_
        refine zv_iincw hB zd260_22 rfl rfl ?_
        refine zv_goto hB zd260_25 rfl ?_
        exact ih _ _ q h hK
  unfold zf_M_lineMany at h
  refine zv_con hB zd260_0 rfl ?_
  refine zv_ist hB zd260_1 rfl rfl rfl ?_
  refine zv_con hB zd260_2 rfl ?_
  refine zv_ist hB zd260_3 rfl rfl rfl ?_
  obtain ⟨q4, hq4, h⟩ := zi_bind h
  refine l0 _ _ _ q4 hq4 ?_
  show good 28 [.inr 1000, .inl q4, .inr 1000] [] [] [g0]
  refine zv_ild hB zd260_28 rfl rfl ?_
  refine zv_con hB zd260_29 rfl ?_
  refine zv_divw hB zd260_30 (by decide) ?_
  have hw := Option.some.inj h
  subst hw
  exact hret _ _ _ _ _ zd260_31 (by trivial) ⟨rfl, rfl, rfl⟩
/-! M_holding ()I -/
-- names: 0 StarTalesModel('arg', 0), 1 (0, 24)(0, 12, 28)
-- fields: ; arrays: g0 = 1; out: [('ret', None), ('g', 0)]
abbrev zy_M_holding : zNL := (2, [(0, 12)], [], [(0, 12, 28, 1)], [(1, 0, 24, 0)])
theorem zyw_M_holding : zv_wf zy_M_holding = true := by decide +kernel
theorem zye_M_holding : zv_ek2 zy_M_holding = true := by decide +kernel
def zf_M_holding_l1_b (x2 : Int) (rec : Int → Int → (Int → Int) → Option (Int × (Int → Int))) (x1 : Int) (x3 : Int) (g0 : (Int → Int)) : Option (Int × (Int → Int)) := if x3 < 24 then (cond (zi_ix x2 24) ((zf_M_has (g0 x2) x3).bind fun r4 => (if r4 = 0 then (rec x1 (zi_w (x3 + 1)) g0) else (cond (zi_ix x3 24) ((zf_M_figureOf x2 (zv_up (zv_up g0 x2 (zi_and (g0 x2) (zi_xor (zi_shl 1 x3) (-1)))) x3 (zi_and ((zv_up g0 x2 (zi_and (g0 x2) (zi_xor (zi_shl 1 x3) (-1)))) x3) (zi_xor (zi_shl 1 x2) (-1))))).bind fun r7 => ((zf_M_has r7 x3).bind fun r8 => (if r8 = 0 then (rec (zi_w (x1 + 1)) (zi_w (x3 + 1)) (zv_up (zv_up (zv_up (zv_up g0 x2 (zi_and (g0 x2) (zi_xor (zi_shl 1 x3) (-1)))) x3 (zi_and ((zv_up g0 x2 (zi_and (g0 x2) (zi_xor (zi_shl 1 x3) (-1)))) x3) (zi_xor (zi_shl 1 x2) (-1)))) x2 (zi_or ((zv_up (zv_up g0 x2 (zi_and (g0 x2) (zi_xor (zi_shl 1 x3) (-1)))) x3 (zi_and ((zv_up g0 x2 (zi_and (g0 x2) (zi_xor (zi_shl 1 x3) (-1)))) x3) (zi_xor (zi_shl 1 x2) (-1)))) x2) (zi_shl 1 x3))) x3 (zi_or ((zv_up (zv_up (zv_up g0 x2 (zi_and (g0 x2) (zi_xor (zi_shl 1 x3) (-1)))) x3 (zi_and ((zv_up g0 x2 (zi_and (g0 x2) (zi_xor (zi_shl 1 x3) (-1)))) x3) (zi_xor (zi_shl 1 x2) (-1)))) x2 (zi_or ((zv_up (zv_up g0 x2 (zi_and (g0 x2) (zi_xor (zi_shl 1 x3) (-1)))) x3 (zi_and ((zv_up g0 x2 (zi_and (g0 x2) (zi_xor (zi_shl 1 x3) (-1)))) x3) (zi_xor (zi_shl 1 x2) (-1)))) x2) (zi_shl 1 x3))) x3) (zi_shl 1 x2)))) else (rec (zi_w (x1 + 0)) (zi_w (x3 + 1)) (zv_up (zv_up (zv_up (zv_up g0 x2 (zi_and (g0 x2) (zi_xor (zi_shl 1 x3) (-1)))) x3 (zi_and ((zv_up g0 x2 (zi_and (g0 x2) (zi_xor (zi_shl 1 x3) (-1)))) x3) (zi_xor (zi_shl 1 x2) (-1)))) x2 (zi_or ((zv_up (zv_up g0 x2 (zi_and (g0 x2) (zi_xor (zi_shl 1 x3) (-1)))) x3 (zi_and ((zv_up g0 x2 (zi_and (g0 x2) (zi_xor (zi_shl 1 x3) (-1)))) x3) (zi_xor (zi_shl 1 x2) (-1)))) x2) (zi_shl 1 x3))) x3 (zi_or ((zv_up (zv_up (zv_up g0 x2 (zi_and (g0 x2) (zi_xor (zi_shl 1 x3) (-1)))) x3 (zi_and ((zv_up g0 x2 (zi_and (g0 x2) (zi_xor (zi_shl 1 x3) (-1)))) x3) (zi_xor (zi_shl 1 x2) (-1)))) x2 (zi_or ((zv_up (zv_up g0 x2 (zi_and (g0 x2) (zi_xor (zi_shl 1 x3) (-1)))) x3 (zi_and ((zv_up g0 x2 (zi_and (g0 x2) (zi_xor (zi_shl 1 x3) (-1)))) x3) (zi_xor (zi_shl 1 x2) (-1)))) x2) (zi_shl 1 x3))) x3) (zi_shl 1 x2))))))) none))) none) else (some (x1, g0))
def zf_M_holding_l1 (x2 : Int) : Nat → Int → Int → (Int → Int) → Option (Int × (Int → Int))
  | 0, _, _, _ => none
  | n + 1, x1, x3, g0 => zf_M_holding_l1_b x2 (zf_M_holding_l1 x2 n) x1 x3 g0
def zf_M_holding_l0_b (rec : Int → Int → (Int → Int) → Option (Int × (Int → Int))) (x1 : Int) (x2 : Int) (g0 : (Int → Int)) : Option (Int × (Int → Int)) := if x2 < 24 then ((zf_M_holding_l1 x2 zi_fu x1 (zi_w (x2 + 1)) g0).bind fun q10 => (rec q10.1 (zi_w (x2 + 1)) q10.2)) else (some (x1, g0))
def zf_M_holding_l0 : Nat → Int → Int → (Int → Int) → Option (Int × (Int → Int))
  | 0, _, _, _ => none
  | n + 1, x1, x2, g0 => zf_M_holding_l0_b (zf_M_holding_l0 n) x1 x2 g0
def zf_M_holding (g0 : (Int → Int)) : Option (Int × (Int → Int)) := (zf_M_holding_l0 zi_fu 0 0 g0).bind fun q11 => (some (q11.1, q11.2))
theorem zd261_0 : decode zxm261.2.1 0 = .ok (.iconst 0, 1) := by decide +kernel
theorem zd261_1 : decode zxm261.2.1 1 = .ok (.istore_n 1, 1) := by decide +kernel
theorem zd261_2 : decode zxm261.2.1 2 = .ok (.iconst 0, 1) := by decide +kernel
theorem zd261_3 : decode zxm261.2.1 3 = .ok (.istore_n 2, 1) := by decide +kernel
theorem zd261_4 : decode zxm261.2.1 4 = .ok (.iload_n 2, 1) := by decide +kernel
theorem zd261_5 : decode zxm261.2.1 5 = .ok (.bipush 24, 2) := by decide +kernel
theorem zd261_7 : decode zxm261.2.1 7 = .ok (.if_icmp .ge 129, 3) := by decide +kernel
theorem zd261_10 : decode zxm261.2.1 10 = .ok (.iload_n 2, 1) := by decide +kernel
theorem zd261_11 : decode zxm261.2.1 11 = .ok (.iconst 1, 1) := by decide +kernel
theorem zd261_12 : decode zxm261.2.1 12 = .ok (.iadd, 1) := by decide +kernel
theorem zd261_13 : decode zxm261.2.1 13 = .ok (.istore_n 3, 1) := by decide +kernel
theorem zd261_14 : decode zxm261.2.1 14 = .ok (.iload_n 3, 1) := by decide +kernel
theorem zd261_15 : decode zxm261.2.1 15 = .ok (.bipush 24, 2) := by decide +kernel
theorem zd261_17 : decode zxm261.2.1 17 = .ok (.if_icmp .ge 113, 3) := by decide +kernel
theorem zd261_20 : decode zxm261.2.1 20 = .ok (.aload_n 0, 1) := by decide +kernel
theorem zd261_21 : decode zxm261.2.1 21 = .ok (.getfield 62, 3) := by decide +kernel
theorem zd261_24 : decode zxm261.2.1 24 = .ok (.iload_n 2, 1) := by decide +kernel
theorem zd261_25 : decode zxm261.2.1 25 = .ok (.iaload, 1) := by decide +kernel
theorem zd261_26 : decode zxm261.2.1 26 = .ok (.iload_n 3, 1) := by decide +kernel
theorem zd261_27 : decode zxm261.2.1 27 = .ok (.invokestatic 138, 3) := by decide +kernel
theorem zd261_30 : decode zxm261.2.1 30 = .ok (.ifCond .ne 6, 3) := by decide +kernel
theorem zd261_33 : decode zxm261.2.1 33 = .ok (.goto 91, 3) := by decide +kernel
theorem zd261_36 : decode zxm261.2.1 36 = .ok (.aload_n 0, 1) := by decide +kernel
theorem zd261_37 : decode zxm261.2.1 37 = .ok (.getfield 62, 3) := by decide +kernel
theorem zd261_40 : decode zxm261.2.1 40 = .ok (.iload_n 2, 1) := by decide +kernel
theorem zd261_41 : decode zxm261.2.1 41 = .ok (.aload_n 0, 1) := by decide +kernel
theorem zd261_42 : decode zxm261.2.1 42 = .ok (.getfield 62, 3) := by decide +kernel
theorem zd261_45 : decode zxm261.2.1 45 = .ok (.iload_n 2, 1) := by decide +kernel
theorem zd261_46 : decode zxm261.2.1 46 = .ok (.iaload, 1) := by decide +kernel
theorem zd261_47 : decode zxm261.2.1 47 = .ok (.iconst 1, 1) := by decide +kernel
theorem zd261_48 : decode zxm261.2.1 48 = .ok (.iload_n 3, 1) := by decide +kernel
theorem zd261_49 : decode zxm261.2.1 49 = .ok (.ishl, 1) := by decide +kernel
theorem zd261_50 : decode zxm261.2.1 50 = .ok (.iconst (-1), 1) := by decide +kernel
theorem zd261_51 : decode zxm261.2.1 51 = .ok (.ixor, 1) := by decide +kernel
theorem zd261_52 : decode zxm261.2.1 52 = .ok (.iand, 1) := by decide +kernel
theorem zd261_53 : decode zxm261.2.1 53 = .ok (.iastore, 1) := by decide +kernel
theorem zd261_54 : decode zxm261.2.1 54 = .ok (.aload_n 0, 1) := by decide +kernel
theorem zd261_55 : decode zxm261.2.1 55 = .ok (.getfield 62, 3) := by decide +kernel
theorem zd261_58 : decode zxm261.2.1 58 = .ok (.iload_n 3, 1) := by decide +kernel
theorem zd261_59 : decode zxm261.2.1 59 = .ok (.aload_n 0, 1) := by decide +kernel
theorem zd261_60 : decode zxm261.2.1 60 = .ok (.getfield 62, 3) := by decide +kernel
theorem zd261_63 : decode zxm261.2.1 63 = .ok (.iload_n 3, 1) := by decide +kernel
theorem zd261_64 : decode zxm261.2.1 64 = .ok (.iaload, 1) := by decide +kernel
theorem zd261_65 : decode zxm261.2.1 65 = .ok (.iconst 1, 1) := by decide +kernel
theorem zd261_66 : decode zxm261.2.1 66 = .ok (.iload_n 2, 1) := by decide +kernel
theorem zd261_67 : decode zxm261.2.1 67 = .ok (.ishl, 1) := by decide +kernel
theorem zd261_68 : decode zxm261.2.1 68 = .ok (.iconst (-1), 1) := by decide +kernel
theorem zd261_69 : decode zxm261.2.1 69 = .ok (.ixor, 1) := by decide +kernel
theorem zd261_70 : decode zxm261.2.1 70 = .ok (.iand, 1) := by decide +kernel
theorem zd261_71 : decode zxm261.2.1 71 = .ok (.iastore, 1) := by decide +kernel
theorem zd261_72 : decode zxm261.2.1 72 = .ok (.iload_n 1, 1) := by decide +kernel
theorem zd261_73 : decode zxm261.2.1 73 = .ok (.aload_n 0, 1) := by decide +kernel
theorem zd261_74 : decode zxm261.2.1 74 = .ok (.iload_n 2, 1) := by decide +kernel
theorem zd261_75 : decode zxm261.2.1 75 = .ok (.invokevirtual 318, 3) := by decide +kernel
theorem zd261_78 : decode zxm261.2.1 78 = .ok (.iload_n 3, 1) := by decide +kernel
theorem zd261_79 : decode zxm261.2.1 79 = .ok (.invokestatic 138, 3) := by decide +kernel
theorem zd261_82 : decode zxm261.2.1 82 = .ok (.ifCond .eq 7, 3) := by decide +kernel
theorem zd261_85 : decode zxm261.2.1 85 = .ok (.iconst 0, 1) := by decide +kernel
theorem zd261_86 : decode zxm261.2.1 86 = .ok (.goto 4, 3) := by decide +kernel
theorem zd261_89 : decode zxm261.2.1 89 = .ok (.iconst 1, 1) := by decide +kernel
theorem zd261_90 : decode zxm261.2.1 90 = .ok (.iadd, 1) := by decide +kernel
theorem zd261_91 : decode zxm261.2.1 91 = .ok (.istore_n 1, 1) := by decide +kernel
theorem zd261_92 : decode zxm261.2.1 92 = .ok (.aload_n 0, 1) := by decide +kernel
theorem zd261_93 : decode zxm261.2.1 93 = .ok (.getfield 62, 3) := by decide +kernel
theorem zd261_96 : decode zxm261.2.1 96 = .ok (.iload_n 2, 1) := by decide +kernel
theorem zd261_97 : decode zxm261.2.1 97 = .ok (.aload_n 0, 1) := by decide +kernel
theorem zd261_98 : decode zxm261.2.1 98 = .ok (.getfield 62, 3) := by decide +kernel
theorem zd261_101 : decode zxm261.2.1 101 = .ok (.iload_n 2, 1) := by decide +kernel
theorem zd261_102 : decode zxm261.2.1 102 = .ok (.iaload, 1) := by decide +kernel
theorem zd261_103 : decode zxm261.2.1 103 = .ok (.iconst 1, 1) := by decide +kernel
theorem zd261_104 : decode zxm261.2.1 104 = .ok (.iload_n 3, 1) := by decide +kernel
theorem zd261_105 : decode zxm261.2.1 105 = .ok (.ishl, 1) := by decide +kernel
theorem zd261_106 : decode zxm261.2.1 106 = .ok (.ior, 1) := by decide +kernel
theorem zd261_107 : decode zxm261.2.1 107 = .ok (.iastore, 1) := by decide +kernel
theorem zd261_108 : decode zxm261.2.1 108 = .ok (.aload_n 0, 1) := by decide +kernel
theorem zd261_109 : decode zxm261.2.1 109 = .ok (.getfield 62, 3) := by decide +kernel
theorem zd261_112 : decode zxm261.2.1 112 = .ok (.iload_n 3, 1) := by decide +kernel
theorem zd261_113 : decode zxm261.2.1 113 = .ok (.aload_n 0, 1) := by decide +kernel
theorem zd261_114 : decode zxm261.2.1 114 = .ok (.getfield 62, 3) := by decide +kernel
theorem zd261_117 : decode zxm261.2.1 117 = .ok (.iload_n 3, 1) := by decide +kernel
theorem zd261_118 : decode zxm261.2.1 118 = .ok (.iaload, 1) := by decide +kernel
theorem zd261_119 : decode zxm261.2.1 119 = .ok (.iconst 1, 1) := by decide +kernel
theorem zd261_120 : decode zxm261.2.1 120 = .ok (.iload_n 2, 1) := by decide +kernel
theorem zd261_121 : decode zxm261.2.1 121 = .ok (.ishl, 1) := by decide +kernel
theorem zd261_122 : decode zxm261.2.1 122 = .ok (.ior, 1) := by decide +kernel
theorem zd261_123 : decode zxm261.2.1 123 = .ok (.iastore, 1) := by decide +kernel
theorem zd261_124 : decode zxm261.2.1 124 = .ok (.iinc 3 1, 3) := by decide +kernel
theorem zd261_127 : decode zxm261.2.1 127 = .ok (.goto (-113), 3) := by decide +kernel
theorem zd261_130 : decode zxm261.2.1 130 = .ok (.iinc 2 1, 3) := by decide +kernel
theorem zd261_133 : decode zxm261.2.1 133 = .ok (.goto (-129), 3) := by decide +kernel
theorem zd261_136 : decode zxm261.2.1 136 = .ok (.iload_n 1, 1) := by decide +kernel
theorem zd261_137 : decode zxm261.2.1 137 = .ok (.ireturn, 1) := by decide +kernel
theorem zt_M_holding {g0 : (Int → Int)} {o : Int × (Int → Int)} (h : zf_M_holding g0 = some o) : zv_Fn z_TB z_cl z_KX zy_M_holding zxm261 (2, 120) [.inr 0] [] [g0] (some o.1) [] [o.2] := zv_meth (K := (z_KF13, z_KC13, z_KL13, z_KT13, [], [], [], none)) (FT := z_FT) (MT := z_MT) (n := 1) zxp261 (z_ks13 _ (fun _ h => List.mem_cons_of_mem _ h) _ _ _ _ (fun j r h _ => by cases h)) (fun _ _ => zs_KX_p) zyw_M_holding (fun va F G h => by obtain ⟨rfl, _⟩ := h; rfl) (fun va F G h => by obtain ⟨rfl, _⟩ := h; rfl) rfl fun good va F G hB hret hvret hP => by
  obtain ⟨rfl, rfl, rfl⟩ := hP
  have l1 : ∀ (n : Nat) (x1 : Int) (x2 : Int) (x3 : Int) (g0 : (Int → Int)) (q : Int × (Int → Int)), zf_M_holding_l1 x2 n x1 x3 g0 = some q → (good 130 [.inr 0, .inl q.1, .inl x2, .inr 1000] [] [] [q.2]) → good 14 [.inr 0, .inl x1, .inl x2, .inl x3] [] [] [g0] := by
    intro n
    induction n with
    | zero => intro x1 x2 x3 g0 q h; exact absurd (show none = some q from h) (fun h => by cases h)
    | succ n ih =>
      intro x1 x2 x3 g0 q h hK
      replace h : zf_M_holding_l1_b x2 (zf_M_holding_l1 x2 n) x1 x3 g0 = some q := h
      unfold zf_M_holding_l1_b at h
      refine zv_ild hB zd261_14 rfl rfl ?_
      refine zv_con hB zd261_15 rfl ?_
      refine zv_cge hB zd261_17 rfl (fun hc2 => ?_) (fun hc2 => ?_)
      · rw [if_neg (Int.not_lt.mpr hc2)] at h
        have hq := Option.some.inj h
        subst hq
        refine zv_wk hB (L' := [.inr 0, .inl x1, .inl x2, .inr 1000]) (F' := []) ⟨fun _ => rfl, fun _ => rfl, fun _ => rfl, fun (h : zv_is (.inr 1000)) => (Nat.lt_irrefl 1000 h).elim, trivial⟩ trivial ?_
        exact hK
      · rw [if_pos hc2] at h
        refine zv_ald hB zd261_20 rfl rfl rfl ?_
        refine zv_getr hB zd261_21 rfl ?_
        refine zv_ild hB zd261_24 rfl rfl ?_
        obtain ⟨c3, h⟩ := zi_if h
        refine zv_iald hB zd261_25 rfl rfl (zi_ix_ok c3).1 (zi_ix_ok c3).2 (fun _ _ => ?_)
        refine zv_ild hB zd261_26 rfl rfl ?_
        obtain ⟨r4, hr4, h⟩ := zi_bind h
        refine zv_cs hB (zv_emq (va2 := [.inl (g0 x2), .inl x3]) (F := []) (F' := []) (G := [g0]) (G' := [g0]) (ρ := []) (φ := []) (ψ := []) [] [none] zyw_M_has zyw_M_holding zye_M_holding (by decide +kernel) (zt_M_has hr4) trivial trivial rfl rfl rfl rfl rfl rfl rfl) zd261_27 zxt204 rfl (by decide) (by decide) rfl ?_
        refine zv_zne hB zd261_30 rfl (fun hc5 => ?_) (fun hc5 => ?_)
        · rw [if_neg hc5] at h
          refine zv_ald hB zd261_36 rfl rfl rfl ?_
          refine zv_getr hB zd261_37 rfl ?_
          refine zv_ild hB zd261_40 rfl rfl ?_
          refine zv_ald hB zd261_41 rfl rfl rfl ?_
          refine zv_getr hB zd261_42 rfl ?_
          refine zv_ild hB zd261_45 rfl rfl ?_
          refine zv_iald hB zd261_46 rfl rfl (zi_ix_ok c3).1 (zi_ix_ok c3).2 (fun _ _ => ?_)
          refine zv_con hB zd261_47 rfl ?_
          refine zv_ild hB zd261_48 rfl rfl ?_
          refine zv_shlw hB zd261_49 ?_
          refine zv_con hB zd261_50 rfl ?_
          refine zv_xorw hB zd261_51 ?_
          refine zv_andw hB zd261_52 ?_
          refine zv_iast hB zd261_53 rfl rfl (zi_ix_ok c3).1 (zi_ix_ok c3).2 ?_
          refine zv_ald hB zd261_54 rfl rfl rfl ?_
          refine zv_getr hB zd261_55 rfl ?_
          refine zv_ild hB zd261_58 rfl rfl ?_
          refine zv_ald hB zd261_59 rfl rfl rfl ?_
          refine zv_getr hB zd261_60 rfl ?_
          refine zv_ild hB zd261_63 rfl rfl ?_
          obtain ⟨c6, h⟩ := zi_if h
          refine zv_iald hB zd261_64 rfl rfl (zi_ix_ok c6).1 (zi_ix_ok c6).2 (fun _ _ => ?_)
          refine zv_con hB zd261_65 rfl ?_
          refine zv_ild hB zd261_66 rfl rfl ?_
          refine zv_shlw hB zd261_67 ?_
          refine zv_con hB zd261_68 rfl ?_
          refine zv_xorw hB zd261_69 ?_
          refine zv_andw hB zd261_70 ?_
          refine zv_iast hB zd261_71 rfl rfl (zi_ix_ok c6).1 (zi_ix_ok c6).2 ?_
          refine zv_ild hB zd261_72 rfl rfl ?_
          refine zv_ald hB zd261_73 rfl rfl rfl ?_
          refine zv_ild hB zd261_74 rfl rfl ?_
          obtain ⟨r7, hr7, h⟩ := zi_bind h
          refine zv_cv hB (zv_emq (va2 := [.inr 0, .inl x2]) (F := []) (F' := []) (G := [(zv_up (zv_up g0 x2 (zi_and (g0 x2) (zi_xor (zi_shl 1 x3) (-1)))) x3 (zi_and ((zv_up g0 x2 (zi_and (g0 x2) (zi_xor (zi_shl 1 x3) (-1)))) x3) (zi_xor (zi_shl 1 x2) (-1))))]) (G' := [(zv_up (zv_up g0 x2 (zi_and (g0 x2) (zi_xor (zi_shl 1 x3) (-1)))) x3 (zi_and ((zv_up g0 x2 (zi_and (g0 x2) (zi_xor (zi_shl 1 x3) (-1)))) x3) (zi_xor (zi_shl 1 x2) (-1))))]) (ρ := [0, 1]) (φ := []) (ψ := [0]) [] [some 0] zyw_M_figureOf zyw_M_holding zye_M_holding (by decide +kernel) (zt_M_figureOf hr7) trivial ⟨rfl, trivial⟩ rfl rfl rfl rfl rfl rfl rfl) zd261_75 zxt256 rfl (by decide) (by decide) rfl ?_
          refine zv_ild hB zd261_78 rfl rfl ?_
          obtain ⟨r8, hr8, h⟩ := zi_bind h
          refine zv_cs hB (zv_emq (va2 := [.inl r7, .inl x3]) (F := []) (F' := []) (G := [(zv_up (zv_up g0 x2 (zi_and (g0 x2) (zi_xor (zi_shl 1 x3) (-1)))) x3 (zi_and ((zv_up g0 x2 (zi_and (g0 x2) (zi_xor (zi_shl 1 x3) (-1)))) x3) (zi_xor (zi_shl 1 x2) (-1))))]) (G' := [(zv_up (zv_up g0 x2 (zi_and (g0 x2) (zi_xor (zi_shl 1 x3) (-1)))) x3 (zi_and ((zv_up g0 x2 (zi_and (g0 x2) (zi_xor (zi_shl 1 x3) (-1)))) x3) (zi_xor (zi_shl 1 x2) (-1))))]) (ρ := []) (φ := []) (ψ := []) [] [none] zyw_M_has zyw_M_holding zye_M_holding (by decide +kernel) (zt_M_has hr8) trivial trivial rfl rfl rfl rfl rfl rfl rfl) zd261_79 zxt204 rfl (by decide) (by decide) rfl ?_
          refine zv_zeq hB zd261_82 rfl (fun hc9 => ?_) (fun hc9 => ?_)
          · rw [if_pos hc9] at h
            refine zv_con hB zd261_89 rfl ?_
            refine zv_addw hB zd261_90 ?_
            refine zv_ist hB zd261_91 rfl rfl rfl ?_
            refine zv_ald hB zd261_92 rfl rfl rfl ?_
            refine zv_getr hB zd261_93 rfl ?_
            refine zv_ild hB zd261_96 rfl rfl ?_
            refine zv_ald hB zd261_97 rfl rfl rfl ?_
            refine zv_getr hB zd261_98 rfl ?_
            refine zv_ild hB zd261_101 rfl rfl ?_
            refine zv_iald hB zd261_102 rfl rfl (zi_ix_ok c3).1 (zi_ix_ok c3).2 (fun _ _ => ?_)
            refine zv_con hB zd261_103 rfl ?_
            refine zv_ild hB zd261_104 rfl rfl ?_
            refine zv_shlw hB zd261_105 ?_
            refine zv_orw hB zd261_106 ?_
            refine zv_iast hB zd261_107 rfl rfl (zi_ix_ok c3).1 (zi_ix_ok c3).2 ?_
            refine zv_ald hB zd261_108 rfl rfl rfl ?_
            refine zv_getr hB zd261_109 rfl ?_
            refine zv_ild hB zd261_112 rfl rfl ?_
            refine zv_ald hB zd261_113 rfl rfl rfl ?_
            refine zv_getr hB zd261_114 rfl ?_
            refine zv_ild hB zd261_117 rfl rfl ?_
            refine zv_iald hB zd261_118 rfl rfl (zi_ix_ok c6).1 (zi_ix_ok c6).2 (fun _ _ => ?_)
            refine zv_con hB zd261_119 rfl ?_
            refine zv_ild hB zd261_120 rfl rfl ?_
            refine zv_shlw hB zd261_121 ?_
            refine zv_orw hB zd261_122 ?_
            refine zv_iast hB zd261_123 rfl rfl (zi_ix_ok c6).1 (zi_ix_ok c6).2 ?_
            refine zv_iincw hB zd261_124 rfl rfl ?_
            refine zv_goto hB zd261_127 rfl ?_
            exact ih _ _ _ _ q h hK
          · rw [if_neg hc9] at h
            refine zv_con hB zd261_85 rfl ?_
            refine zv_goto hB zd261_86 rfl ?_
            refine zv_addw hB zd261_90 ?_
            refine zv_ist hB zd261_91 rfl rfl rfl ?_
            refine zv_ald hB zd261_92 rfl rfl rfl ?_
            refine zv_getr hB zd261_93 rfl ?_
            refine zv_ild hB zd261_96 rfl rfl ?_
            refine zv_ald hB zd261_97 rfl rfl rfl ?_
            refine zv_getr hB zd261_98 rfl ?_
            refine zv_ild hB zd261_101 rfl rfl ?_
            refine zv_iald hB zd261_102 rfl rfl (zi_ix_ok c3).1 (zi_ix_ok c3).2 (fun _ _ => ?_)
            refine zv_con hB zd261_103 rfl ?_
            refine zv_ild hB zd261_104 rfl rfl ?_
            refine zv_shlw hB zd261_105 ?_
            refine zv_orw hB zd261_106 ?_
            refine zv_iast hB zd261_107 rfl rfl (zi_ix_ok c3).1 (zi_ix_ok c3).2 ?_
            refine zv_ald hB zd261_108 rfl rfl rfl ?_
            refine zv_getr hB zd261_109 rfl ?_
            refine zv_ild hB zd261_112 rfl rfl ?_
            refine zv_ald hB zd261_113 rfl rfl rfl ?_
            refine zv_getr hB zd261_114 rfl ?_
            refine zv_ild hB zd261_117 rfl rfl ?_
            refine zv_iald hB zd261_118 rfl rfl (zi_ix_ok c6).1 (zi_ix_ok c6).2 (fun _ _ => ?_)
            refine zv_con hB zd261_119 rfl ?_
            refine zv_ild hB zd261_120 rfl rfl ?_
            refine zv_shlw hB zd261_121 ?_
            refine zv_orw hB zd261_122 ?_
            refine zv_iast hB zd261_123 rfl rfl (zi_ix_ok c6).1 (zi_ix_ok c6).2 ?_
            refine zv_iincw hB zd261_124 rfl rfl ?_
            refine zv_goto hB zd261_127 rfl ?_
            exact ih _ _ _ _ q h hK
        · rw [if_pos hc5] at h
          refine zv_goto hB zd261_33 rfl ?_
          refine zv_iincw hB zd261_124 rfl rfl ?_
          refine zv_goto hB zd261_127 rfl ?_
          exact ih _ _ _ _ q h hK
  have l0 : ∀ (n : Nat) (x1 : Int) (x2 : Int) (g0 : (Int → Int)) (q : Int × (Int → Int)), zf_M_holding_l0 n x1 x2 g0 = some q → (good 136 [.inr 1000, .inl q.1, .inr 1000, .inr 1000] [] [] [q.2]) → good 4 [.inr 0, .inl x1, .inl x2, .inr 1000] [] [] [g0] := by
    intro n
    induction n with
    | zero => intro x1 x2 g0 q h; exact absurd (show none = some q from h) (fun h => by cases h)
    | succ n ih =>
      intro x1 x2 g0 q h hK
      replace h : zf_M_holding_l0_b (zf_M_holding_l0 n) x1 x2 g0 = some q := h
      unfold zf_M_holding_l0_b at h
      refine zv_ild hB zd261_4 rfl rfl ?_
      refine zv_con hB zd261_5 rfl ?_
      refine zv_cge hB zd261_7 rfl (fun hc1 => ?_) (fun hc1 => ?_)
      · rw [if_neg (Int.not_lt.mpr hc1)] at h
        have hq := Option.some.inj h
        subst hq
        refine zv_wk hB (L' := [.inr 1000, .inl x1, .inr 1000, .inr 1000]) (F' := []) ⟨fun (h : zv_is (.inr 1000)) => (Nat.lt_irrefl 1000 h).elim, fun _ => rfl, fun (h : zv_is (.inr 1000)) => (Nat.lt_irrefl 1000 h).elim, fun (h : zv_is (.inr 1000)) => (Nat.lt_irrefl 1000 h).elim, trivial⟩ trivial ?_
        exact hK
      · rw [if_pos hc1] at h
        refine zv_ild hB zd261_10 rfl rfl ?_
        refine zv_con hB zd261_11 rfl ?_
        refine zv_addw hB zd261_12 ?_
        refine zv_ist hB zd261_13 rfl rfl rfl ?_
        obtain ⟨q10, hq10, h⟩ := zi_bind h
        refine l1 _ _ _ _ _ q10 hq10 ?_
        show good 130 [.inr 0, .inl q10.1, .inl x2, .inr 1000] [] [] [q10.2]
        refine zv_iincw hB zd261_130 rfl rfl ?_
        refine zv_goto hB zd261_133 rfl ?_
        exact ih _ _ _ q h hK
  unfold zf_M_holding at h
  refine zv_con hB zd261_0 rfl ?_
  refine zv_ist hB zd261_1 rfl rfl rfl ?_
  refine zv_con hB zd261_2 rfl ?_
  refine zv_ist hB zd261_3 rfl rfl rfl ?_
  obtain ⟨q11, hq11, h⟩ := zi_bind h
  refine l0 _ _ _ _ q11 hq11 ?_
  show good 136 [.inr 1000, .inl q11.1, .inr 1000, .inr 1000] [] [] [q11.2]
  refine zv_ild hB zd261_136 rfl rfl ?_
  have hw := Option.some.inj h
  subst hw
  exact hret _ _ _ _ _ zd261_137 (by trivial) ⟨rfl, rfl, rfl⟩
/-! M_sky (III)I -/
-- names: 0 StarTalesModel('arg', 0), 1 (0, 422)(0, 12, 0), 2 (0, 14)(0, 12, 21), 3 (0, 13)(0, 12, 26), 4 (0, 14)(0, 12, 23), 5 (0, 14)(0, 12, 24), 6 (0, 220)(0, 12, 20), 7 (0, 220)(0, 12, 25), 8 (0, 24)(0, 12, 28)
-- fields: f0 = 0.clauses_, f1 = 0.seen0_, f2 = 0.figures_, f3 = 0.largest_; arrays: g0 = 1, g1 = 2, g2 = 3, g3 = 4, g4 = 5, g5 = 6, g6 = 7, g7 = 8; out: [('ret', None), ('f', 1), ('f', 2), ('f', 3), ('g', 2), ('g', 6), ('g', 7)]
abbrev zy_M_sky : zNL := (9, [(0, 12)], [(0, 12, 13, 0), (0, 12, 27, 1), (0, 12, 29, 2), (0, 12, 30, 3)], [(0, 12, 0, 1), (0, 12, 21, 2), (0, 12, 26, 3), (0, 12, 23, 4), (0, 12, 24, 5), (0, 12, 20, 6), (0, 12, 25, 7), (0, 12, 28, 8)], [(1, 0, 422, 0), (2, 0, 14, 1), (3, 0, 13, 2), (4, 0, 14, 3), (5, 0, 14, 4), (6, 0, 220, 5), (7, 0, 220, 6), (8, 0, 24, 7)])
theorem zyw_M_sky : zv_wf zy_M_sky = true := by decide +kernel
theorem zye_M_sky : zv_ek2 zy_M_sky = true := by decide +kernel
def zf_M_sky (x1 : Int) (x2 : Int) (x3 : Int) (f0 : Int) (f1 : Int) (f2 : Int) (f3 : Int) (g0 : (Int → Int)) (g1 : (Int → Int)) (g2 : (Int → Int)) (g3 : (Int → Int)) (g4 : (Int → Int)) (g5 : (Int → Int)) (g6 : (Int → Int)) (g7 : (Int → Int)) : Option (Int × Int × Int × Int × (Int → Int) × (Int → Int) × (Int → Int)) := (zf_M_isPlace x1 x2).bind fun r1 => (if r1 = 0 then (some ((-1), f1, f2, f3, g2, g6, g7)) else ((zf_M_looks (zi_w ((zi_w (24 * x2)) + x1)) f0 f1 g0 g1 g2 g3 g4 g5 g6 g7).bind fun r3 => ((zf_M_laysFigures f2 f3 r3.1 r3.2.2.2).bind fun r4 => ((zf_M_mostLegs r3.1 r3.2.2.2).bind fun r5 => (if x3 = 0 then ((zf_M_lineMany r3.2.2.2).bind fun r7 => (some (r7, r3.1, r4.1, r4.2, r3.2.1, r3.2.2.1, r3.2.2.2))) else (if x3 = 1 then (some (r4.1, r3.1, r4.1, r4.2, r3.2.1, r3.2.2.1, r3.2.2.2)) else (if x3 = 2 then (some (r4.2, r3.1, r4.1, r4.2, r3.2.1, r3.2.2.1, r3.2.2.2)) else (if x3 = 3 then ((zf_M_lineMany r3.2.2.2).bind fun r11 => ((zf_M_bits r3.1).bind fun r12 => (some ((zi_w ((zi_w (r11 - r12)) + r4.1)), r3.1, r4.1, r4.2, r3.2.1, r3.2.2.1, r3.2.2.2)))) else (if x3 = 4 then ((zf_M_holding r3.2.2.2).bind fun r14 => (some (r14.1, r3.1, r4.1, r4.2, r3.2.1, r3.2.2.1, r14.2))) else (if x3 = 5 then (some (r5, r3.1, r4.1, r4.2, r3.2.1, r3.2.2.1, r3.2.2.2)) else (if x3 = 6 then (if r5 = (-1) then (some (0, r3.1, r4.1, r4.2, r3.2.1, r3.2.2.1, r3.2.2.2)) else (cond (zi_ix r5 24) ((zf_M_bits (r3.2.2.2 r5)).bind fun r19 => (some (r19, r3.1, r4.1, r4.2, r3.2.1, r3.2.2.1, r3.2.2.2))) none)) else (some ((-1), r3.1, r4.1, r4.2, r3.2.1, r3.2.2.1, r3.2.2.2)))))))))))))
theorem zd254_0 : decode zxm254.2.1 0 = .ok (.iload_n 1, 1) := by decide +kernel
theorem zd254_1 : decode zxm254.2.1 1 = .ok (.iload_n 2, 1) := by decide +kernel
theorem zd254_2 : decode zxm254.2.1 2 = .ok (.invokestatic 154, 3) := by decide +kernel
theorem zd254_5 : decode zxm254.2.1 5 = .ok (.ifCond .ne 5, 3) := by decide +kernel
theorem zd254_8 : decode zxm254.2.1 8 = .ok (.iconst (-1), 1) := by decide +kernel
theorem zd254_9 : decode zxm254.2.1 9 = .ok (.ireturn, 1) := by decide +kernel
theorem zd254_10 : decode zxm254.2.1 10 = .ok (.aload_n 0, 1) := by decide +kernel
theorem zd254_11 : decode zxm254.2.1 11 = .ok (.bipush 24, 2) := by decide +kernel
theorem zd254_13 : decode zxm254.2.1 13 = .ok (.iload_n 2, 1) := by decide +kernel
theorem zd254_14 : decode zxm254.2.1 14 = .ok (.imul, 1) := by decide +kernel
theorem zd254_15 : decode zxm254.2.1 15 = .ok (.iload_n 1, 1) := by decide +kernel
theorem zd254_16 : decode zxm254.2.1 16 = .ok (.iadd, 1) := by decide +kernel
theorem zd254_17 : decode zxm254.2.1 17 = .ok (.invokevirtual 309, 3) := by decide +kernel
theorem zd254_20 : decode zxm254.2.1 20 = .ok (.aload_n 0, 1) := by decide +kernel
theorem zd254_21 : decode zxm254.2.1 21 = .ok (.invokevirtual 327, 3) := by decide +kernel
theorem zd254_24 : decode zxm254.2.1 24 = .ok (.aload_n 0, 1) := by decide +kernel
theorem zd254_25 : decode zxm254.2.1 25 = .ok (.invokevirtual 330, 3) := by decide +kernel
theorem zd254_28 : decode zxm254.2.1 28 = .ok (.istore 4, 2) := by decide +kernel
theorem zd254_30 : decode zxm254.2.1 30 = .ok (.iload_n 3, 1) := by decide +kernel
theorem zd254_31 : decode zxm254.2.1 31 = .ok (.tableswitch 103 0 6 #[41, 46, 51, 56, 74, 79, 82], 41) := by decide +kernel
theorem zd254_72 : decode zxm254.2.1 72 = .ok (.aload_n 0, 1) := by decide +kernel
theorem zd254_73 : decode zxm254.2.1 73 = .ok (.invokevirtual 333, 3) := by decide +kernel
theorem zd254_76 : decode zxm254.2.1 76 = .ok (.ireturn, 1) := by decide +kernel
theorem zd254_77 : decode zxm254.2.1 77 = .ok (.aload_n 0, 1) := by decide +kernel
theorem zd254_78 : decode zxm254.2.1 78 = .ok (.getfield 312, 3) := by decide +kernel
theorem zd254_81 : decode zxm254.2.1 81 = .ok (.ireturn, 1) := by decide +kernel
theorem zd254_82 : decode zxm254.2.1 82 = .ok (.aload_n 0, 1) := by decide +kernel
theorem zd254_83 : decode zxm254.2.1 83 = .ok (.getfield 315, 3) := by decide +kernel
theorem zd254_86 : decode zxm254.2.1 86 = .ok (.ireturn, 1) := by decide +kernel
theorem zd254_87 : decode zxm254.2.1 87 = .ok (.aload_n 0, 1) := by decide +kernel
theorem zd254_88 : decode zxm254.2.1 88 = .ok (.invokevirtual 333, 3) := by decide +kernel
theorem zd254_91 : decode zxm254.2.1 91 = .ok (.aload_n 0, 1) := by decide +kernel
theorem zd254_92 : decode zxm254.2.1 92 = .ok (.getfield 303, 3) := by decide +kernel
theorem zd254_95 : decode zxm254.2.1 95 = .ok (.invokestatic 321, 3) := by decide +kernel
theorem zd254_98 : decode zxm254.2.1 98 = .ok (.isub, 1) := by decide +kernel
theorem zd254_99 : decode zxm254.2.1 99 = .ok (.aload_n 0, 1) := by decide +kernel
theorem zd254_100 : decode zxm254.2.1 100 = .ok (.getfield 312, 3) := by decide +kernel
theorem zd254_103 : decode zxm254.2.1 103 = .ok (.iadd, 1) := by decide +kernel
theorem zd254_104 : decode zxm254.2.1 104 = .ok (.ireturn, 1) := by decide +kernel
theorem zd254_105 : decode zxm254.2.1 105 = .ok (.aload_n 0, 1) := by decide +kernel
theorem zd254_106 : decode zxm254.2.1 106 = .ok (.invokevirtual 336, 3) := by decide +kernel
theorem zd254_109 : decode zxm254.2.1 109 = .ok (.ireturn, 1) := by decide +kernel
theorem zd254_110 : decode zxm254.2.1 110 = .ok (.iload 4, 2) := by decide +kernel
theorem zd254_112 : decode zxm254.2.1 112 = .ok (.ireturn, 1) := by decide +kernel
theorem zd254_113 : decode zxm254.2.1 113 = .ok (.iload 4, 2) := by decide +kernel
theorem zd254_115 : decode zxm254.2.1 115 = .ok (.iconst (-1), 1) := by decide +kernel
theorem zd254_116 : decode zxm254.2.1 116 = .ok (.if_icmp .ne 7, 3) := by decide +kernel
theorem zd254_119 : decode zxm254.2.1 119 = .ok (.iconst 0, 1) := by decide +kernel
theorem zd254_120 : decode zxm254.2.1 120 = .ok (.goto 13, 3) := by decide +kernel
theorem zd254_123 : decode zxm254.2.1 123 = .ok (.aload_n 0, 1) := by decide +kernel
theorem zd254_124 : decode zxm254.2.1 124 = .ok (.getfield 62, 3) := by decide +kernel
theorem zd254_127 : decode zxm254.2.1 127 = .ok (.iload 4, 2) := by decide +kernel
theorem zd254_129 : decode zxm254.2.1 129 = .ok (.iaload, 1) := by decide +kernel
theorem zd254_130 : decode zxm254.2.1 130 = .ok (.invokestatic 321, 3) := by decide +kernel
theorem zd254_133 : decode zxm254.2.1 133 = .ok (.ireturn, 1) := by decide +kernel
theorem zd254_134 : decode zxm254.2.1 134 = .ok (.iconst (-1), 1) := by decide +kernel
theorem zd254_135 : decode zxm254.2.1 135 = .ok (.ireturn, 1) := by decide +kernel
theorem zt_M_sky {x1 : Int} {x2 : Int} {x3 : Int} {f0 : Int} {f1 : Int} {f2 : Int} {f3 : Int} {g0 : (Int → Int)} {g1 : (Int → Int)} {g2 : (Int → Int)} {g3 : (Int → Int)} {g4 : (Int → Int)} {g5 : (Int → Int)} {g6 : (Int → Int)} {g7 : (Int → Int)} {o : Int × Int × Int × Int × (Int → Int) × (Int → Int) × (Int → Int)} (h : zf_M_sky x1 x2 x3 f0 f1 f2 f3 g0 g1 g2 g3 g4 g5 g6 g7 = some o) : zv_Fn z_TB z_cl z_KX zy_M_sky zxm254 (6, 360) [.inr 0, .inl x1, .inl x2, .inl x3] [.inl f0, .inl f1, .inl f2, .inl f3] [g0, g1, g2, g3, g4, g5, g6, g7] (some o.1) [.inl f0, .inl o.2.1, .inl o.2.2.1, .inl o.2.2.2.1] [g0, g1, o.2.2.2.2.1, g3, g4, g5, o.2.2.2.2.2.1, o.2.2.2.2.2.2] := zv_meth (K := (z_KF13, z_KC13, z_KL13, z_KT13, [], [], [], none)) (FT := z_FT) (MT := z_MT) (n := 4) zxp254 (z_ks13 _ (fun _ h => List.mem_cons_of_mem _ h) _ _ _ _ (fun j r h _ => by cases h)) (fun _ _ => zs_KX_p) zyw_M_sky (fun va F G h => by obtain ⟨rfl, _⟩ := h; rfl) (fun va F G h => by obtain ⟨rfl, _⟩ := h; rfl) rfl fun good va F G hB hret hvret hP => by
  obtain ⟨rfl, rfl, rfl⟩ := hP
  unfold zf_M_sky at h
  refine zv_ild hB zd254_0 rfl rfl ?_
  refine zv_ild hB zd254_1 rfl rfl ?_
  obtain ⟨r1, hr1, h⟩ := zi_bind h
  refine zv_cs hB (zv_emq (va2 := [.inl x1, .inl x2]) (F := [.inl f0, .inl f1, .inl f2, .inl f3]) (F' := [.inl f0, .inl f1, .inl f2, .inl f3]) (G := [g0, g1, g2, g3, g4, g5, g6, g7]) (G' := [g0, g1, g2, g3, g4, g5, g6, g7]) (ρ := []) (φ := []) (ψ := []) [none, none, none, none] [none, none, none, none, none, none, none, none] zyw_M_isPlace zyw_M_sky zye_M_sky (by decide +kernel) (zt_M_isPlace hr1) trivial trivial rfl rfl rfl rfl rfl rfl rfl) zd254_2 zxt201 rfl (by decide) (by decide) rfl ?_
  refine zv_zne hB zd254_5 rfl (fun hc2 => ?_) (fun hc2 => ?_)
  · rw [if_neg hc2] at h
    refine zv_ald hB zd254_10 rfl rfl rfl ?_
    refine zv_con hB zd254_11 rfl ?_
    refine zv_ild hB zd254_13 rfl rfl ?_
    refine zv_mulw hB zd254_14 ?_
    refine zv_ild hB zd254_15 rfl rfl ?_
    refine zv_addw hB zd254_16 ?_
    obtain ⟨r3, hr3, h⟩ := zi_bind h
    refine zv_cv hB (zv_emq (va2 := [.inr 0, .inl (zi_w ((zi_w (24 * x2)) + x1))]) (F := [.inl f0, .inl f1, .inl f2, .inl f3]) (F' := [.inl f0, .inl r3.1, .inl f2, .inl f3]) (G := [g0, g1, g2, g3, g4, g5, g6, g7]) (G' := [g0, g1, r3.2.1, g3, g4, g5, r3.2.2.1, r3.2.2.2]) (ρ := [0, 1, 2, 3, 4, 5, 6, 7, 8]) (φ := [0, 1]) (ψ := [0, 1, 2, 3, 4, 5, 6, 7]) [some 0, some 1, none, none] [some 0, some 1, some 2, some 3, some 4, some 5, some 6, some 7] zyw_M_looks zyw_M_sky zye_M_sky (by decide +kernel) (zt_M_looks hr3) ⟨⟨_, rfl, fun _ => rfl⟩, ⟨_, rfl, fun _ => rfl⟩, trivial⟩ ⟨rfl, rfl, rfl, rfl, rfl, rfl, rfl, rfl, trivial⟩ rfl rfl rfl rfl rfl rfl rfl) zd254_17 zxt252 rfl (by decide) (by decide) rfl ?_
    refine zv_ald hB zd254_20 rfl rfl rfl ?_
    obtain ⟨r4, hr4, h⟩ := zi_bind h
    refine zv_cv hB (zv_emq (va2 := [.inr 0]) (F := [.inl f0, .inl r3.1, .inl f2, .inl f3]) (F' := [.inl f0, .inl r3.1, .inl r4.1, .inl r4.2]) (G := [g0, g1, r3.2.1, g3, g4, g5, r3.2.2.1, r3.2.2.2]) (G' := [g0, g1, r3.2.1, g3, g4, g5, r3.2.2.1, r3.2.2.2]) (ρ := [0, 8]) (φ := [2, 3, 1]) (ψ := [7]) [none, some 2, some 0, some 1] [none, none, none, none, none, none, none, some 0] zyw_M_laysFigures zyw_M_sky zye_M_sky (by decide +kernel) (zt_M_laysFigures hr4) ⟨⟨_, rfl, fun _ => rfl⟩, ⟨_, rfl, fun _ => rfl⟩, ⟨_, rfl, fun _ => rfl⟩, trivial⟩ ⟨rfl, trivial⟩ rfl rfl rfl rfl rfl rfl rfl) zd254_21 zxt255 rfl (by decide) (by decide) rfl ?_
    refine zv_ald hB zd254_24 rfl rfl rfl ?_
    obtain ⟨r5, hr5, h⟩ := zi_bind h
    refine zv_cv hB (zv_emq (va2 := [.inr 0]) (F := [.inl f0, .inl r3.1, .inl r4.1, .inl r4.2]) (F' := [.inl f0, .inl r3.1, .inl r4.1, .inl r4.2]) (G := [g0, g1, r3.2.1, g3, g4, g5, r3.2.2.1, r3.2.2.2]) (G' := [g0, g1, r3.2.1, g3, g4, g5, r3.2.2.1, r3.2.2.2]) (ρ := [0, 8]) (φ := [1]) (ψ := [7]) [none, some 0, none, none] [none, none, none, none, none, none, none, some 0] zyw_M_mostLegs zyw_M_sky zye_M_sky (by decide +kernel) (zt_M_mostLegs hr5) ⟨⟨_, rfl, fun _ => rfl⟩, trivial⟩ ⟨rfl, trivial⟩ rfl rfl rfl rfl rfl rfl rfl) zd254_25 zxt259 rfl (by decide) (by decide) rfl ?_
    refine zv_ist hB zd254_28 rfl rfl rfl ?_
    refine zv_ild hB zd254_30 rfl rfl ?_
    refine zv_tsw hB zd254_31 rfl ?_
    refine ⟨fun hc6 => ⟨_, rfl, ?_⟩, fun hc6 => ?_⟩
    · replace hc6 : x3 = 0 := hc6
      rw [if_pos hc6] at h
      refine zv_ald hB zd254_72 rfl rfl rfl ?_
      obtain ⟨r7, hr7, h⟩ := zi_bind h
      refine zv_cv hB (zv_emq (va2 := [.inr 0]) (F := [.inl f0, .inl r3.1, .inl r4.1, .inl r4.2]) (F' := [.inl f0, .inl r3.1, .inl r4.1, .inl r4.2]) (G := [g0, g1, r3.2.1, g3, g4, g5, r3.2.2.1, r3.2.2.2]) (G' := [g0, g1, r3.2.1, g3, g4, g5, r3.2.2.1, r3.2.2.2]) (ρ := [0, 8]) (φ := []) (ψ := [7]) [none, none, none, none] [none, none, none, none, none, none, none, some 0] zyw_M_lineMany zyw_M_sky zye_M_sky (by decide +kernel) (zt_M_lineMany hr7) trivial ⟨rfl, trivial⟩ rfl rfl rfl rfl rfl rfl rfl) zd254_73 zxt260 rfl (by decide) (by decide) rfl ?_
      have hw := Option.some.inj h
      subst hw
      exact hret _ _ _ _ _ zd254_76 (by trivial) ⟨rfl, rfl, rfl⟩
    replace hc6 : x3 ≠ 0 := hc6
    rw [if_neg hc6] at h
    refine ⟨fun hc8 => ⟨_, rfl, ?_⟩, fun hc8 => ?_⟩
    · replace hc8 : x3 = 1 := hc8
      rw [if_pos hc8] at h
      refine zv_ald hB zd254_77 rfl rfl rfl ?_
      refine zv_getf hB zd254_78 rfl rfl (fun _ _ => ?_)
      have hw := Option.some.inj h
      subst hw
      exact hret _ _ _ _ _ zd254_81 (by trivial) ⟨rfl, rfl, rfl⟩
    replace hc8 : x3 ≠ 1 := hc8
    rw [if_neg hc8] at h
    refine ⟨fun hc9 => ⟨_, rfl, ?_⟩, fun hc9 => ?_⟩
    · replace hc9 : x3 = 2 := hc9
      rw [if_pos hc9] at h
      refine zv_ald hB zd254_82 rfl rfl rfl ?_
      refine zv_getf hB zd254_83 rfl rfl (fun _ _ => ?_)
      have hw := Option.some.inj h
      subst hw
      exact hret _ _ _ _ _ zd254_86 (by trivial) ⟨rfl, rfl, rfl⟩
    replace hc9 : x3 ≠ 2 := hc9
    rw [if_neg hc9] at h
    refine ⟨fun hc10 => ⟨_, rfl, ?_⟩, fun hc10 => ?_⟩
    · replace hc10 : x3 = 3 := hc10
      rw [if_pos hc10] at h
      refine zv_ald hB zd254_87 rfl rfl rfl ?_
      obtain ⟨r11, hr11, h⟩ := zi_bind h
      refine zv_cv hB (zv_emq (va2 := [.inr 0]) (F := [.inl f0, .inl r3.1, .inl r4.1, .inl r4.2]) (F' := [.inl f0, .inl r3.1, .inl r4.1, .inl r4.2]) (G := [g0, g1, r3.2.1, g3, g4, g5, r3.2.2.1, r3.2.2.2]) (G' := [g0, g1, r3.2.1, g3, g4, g5, r3.2.2.1, r3.2.2.2]) (ρ := [0, 8]) (φ := []) (ψ := [7]) [none, none, none, none] [none, none, none, none, none, none, none, some 0] zyw_M_lineMany zyw_M_sky zye_M_sky (by decide +kernel) (zt_M_lineMany hr11) trivial ⟨rfl, trivial⟩ rfl rfl rfl rfl rfl rfl rfl) zd254_88 zxt260 rfl (by decide) (by decide) rfl ?_
      refine zv_ald hB zd254_91 rfl rfl rfl ?_
      refine zv_getf hB zd254_92 rfl rfl (fun _ _ => ?_)
      obtain ⟨r12, hr12, h⟩ := zi_bind h
      refine zv_cs hB (zv_emq (va2 := [.inl r3.1]) (F := [.inl f0, .inl r3.1, .inl r4.1, .inl r4.2]) (F' := [.inl f0, .inl r3.1, .inl r4.1, .inl r4.2]) (G := [g0, g1, r3.2.1, g3, g4, g5, r3.2.2.1, r3.2.2.2]) (G' := [g0, g1, r3.2.1, g3, g4, g5, r3.2.2.1, r3.2.2.2]) (ρ := []) (φ := []) (ψ := []) [none, none, none, none] [none, none, none, none, none, none, none, none] zyw_M_bits zyw_M_sky zye_M_sky (by decide +kernel) (zt_M_bits hr12) trivial trivial rfl rfl rfl rfl rfl rfl rfl) zd254_95 zxt257 rfl (by decide) (by decide) rfl ?_
      refine zv_subw hB zd254_98 ?_
      refine zv_ald hB zd254_99 rfl rfl rfl ?_
      refine zv_getf hB zd254_100 rfl rfl (fun _ _ => ?_)
      refine zv_addw hB zd254_103 ?_
      have hw := Option.some.inj h
      subst hw
      exact hret _ _ _ _ _ zd254_104 (by trivial) ⟨rfl, rfl, rfl⟩
    replace hc10 : x3 ≠ 3 := hc10
    rw [if_neg hc10] at h
    refine ⟨fun hc13 => ⟨_, rfl, ?_⟩, fun hc13 => ?_⟩
    · replace hc13 : x3 = 4 := hc13
      rw [if_pos hc13] at h
      refine zv_ald hB zd254_105 rfl rfl rfl ?_
      obtain ⟨r14, hr14, h⟩ := zi_bind h
      refine zv_cv hB (zv_emq (va2 := [.inr 0]) (F := [.inl f0, .inl r3.1, .inl r4.1, .inl r4.2]) (F' := [.inl f0, .inl r3.1, .inl r4.1, .inl r4.2]) (G := [g0, g1, r3.2.1, g3, g4, g5, r3.2.2.1, r3.2.2.2]) (G' := [g0, g1, r3.2.1, g3, g4, g5, r3.2.2.1, r14.2]) (ρ := [0, 8]) (φ := []) (ψ := [7]) [none, none, none, none] [none, none, none, none, none, none, none, some 0] zyw_M_holding zyw_M_sky zye_M_sky (by decide +kernel) (zt_M_holding hr14) trivial ⟨rfl, trivial⟩ rfl rfl rfl rfl rfl rfl rfl) zd254_106 zxt261 rfl (by decide) (by decide) rfl ?_
      have hw := Option.some.inj h
      subst hw
      exact hret _ _ _ _ _ zd254_109 (by trivial) ⟨rfl, rfl, rfl⟩
    replace hc13 : x3 ≠ 4 := hc13
    rw [if_neg hc13] at h
    refine ⟨fun hc15 => ⟨_, rfl, ?_⟩, fun hc15 => ?_⟩
    · replace hc15 : x3 = 5 := hc15
      rw [if_pos hc15] at h
      refine zv_ild hB zd254_110 rfl rfl ?_
      have hw := Option.some.inj h
      subst hw
      exact hret _ _ _ _ _ zd254_112 (by trivial) ⟨rfl, rfl, rfl⟩
    replace hc15 : x3 ≠ 5 := hc15
    rw [if_neg hc15] at h
    refine ⟨fun hc16 => ⟨_, rfl, ?_⟩, fun hc16 => ?_⟩
    · replace hc16 : x3 = 6 := hc16
      rw [if_pos hc16] at h
      refine zv_ild hB zd254_113 rfl rfl ?_
      refine zv_con hB zd254_115 rfl ?_
      refine zv_cne hB zd254_116 rfl (fun hc17 => ?_) (fun hc17 => ?_)
      · rw [if_neg hc17] at h
        refine zv_ald hB zd254_123 rfl rfl rfl ?_
        refine zv_getr hB zd254_124 rfl ?_
        refine zv_ild hB zd254_127 rfl rfl ?_
        obtain ⟨c18, h⟩ := zi_if h
        refine zv_iald hB zd254_129 rfl rfl (zi_ix_ok c18).1 (zi_ix_ok c18).2 (fun _ _ => ?_)
        obtain ⟨r19, hr19, h⟩ := zi_bind h
        refine zv_cs hB (zv_emq (va2 := [.inl (r3.2.2.2 r5)]) (F := [.inl f0, .inl r3.1, .inl r4.1, .inl r4.2]) (F' := [.inl f0, .inl r3.1, .inl r4.1, .inl r4.2]) (G := [g0, g1, r3.2.1, g3, g4, g5, r3.2.2.1, r3.2.2.2]) (G' := [g0, g1, r3.2.1, g3, g4, g5, r3.2.2.1, r3.2.2.2]) (ρ := []) (φ := []) (ψ := []) [none, none, none, none] [none, none, none, none, none, none, none, none] zyw_M_bits zyw_M_sky zye_M_sky (by decide +kernel) (zt_M_bits hr19) trivial trivial rfl rfl rfl rfl rfl rfl rfl) zd254_130 zxt257 rfl (by decide) (by decide) rfl ?_
        have hw := Option.some.inj h
        subst hw
        exact hret _ _ _ _ _ zd254_133 (by trivial) ⟨rfl, rfl, rfl⟩
      · rw [if_pos hc17] at h
        refine zv_con hB zd254_119 rfl ?_
        refine zv_goto hB zd254_120 rfl ?_
        have hw := Option.some.inj h
        subst hw
        exact hret _ _ _ _ _ zd254_133 (by trivial) ⟨rfl, rfl, rfl⟩
    replace hc16 : x3 ≠ 6 := hc16
    rw [if_neg hc16] at h
    refine ⟨_, rfl, ?_⟩
    refine zv_con hB zd254_134 rfl ?_
    have hw := Option.some.inj h
    subst hw
    exact hret _ _ _ _ _ zd254_135 (by trivial) ⟨rfl, rfl, rfl⟩
  · rw [if_pos hc2] at h
    refine zv_con hB zd254_8 rfl ?_
    have hw := Option.some.inj h
    subst hw
    exact hret _ _ _ _ _ zd254_9 (by trivial) ⟨rfl, rfl, rfl⟩
/-! M_figure (III)I -/
-- names: 0 StarTalesModel('arg', 0), 1 (0, 422)(0, 12, 0), 2 (0, 14)(0, 12, 21), 3 (0, 13)(0, 12, 26), 4 (0, 14)(0, 12, 23), 5 (0, 14)(0, 12, 24), 6 (0, 220)(0, 12, 20), 7 (0, 220)(0, 12, 25), 8 (0, 24)(0, 12, 28)
-- fields: f0 = 0.clauses_, f1 = 0.seen0_; arrays: g0 = 1, g1 = 2, g2 = 3, g3 = 4, g4 = 5, g5 = 6, g6 = 7, g7 = 8; out: [('ret', None), ('f', 1), ('g', 2), ('g', 6), ('g', 7)]
abbrev zy_M_figure : zNL := (9, [(0, 12)], [(0, 12, 13, 0), (0, 12, 27, 1)], [(0, 12, 0, 1), (0, 12, 21, 2), (0, 12, 26, 3), (0, 12, 23, 4), (0, 12, 24, 5), (0, 12, 20, 6), (0, 12, 25, 7), (0, 12, 28, 8)], [(1, 0, 422, 0), (2, 0, 14, 1), (3, 0, 13, 2), (4, 0, 14, 3), (5, 0, 14, 4), (6, 0, 220, 5), (7, 0, 220, 6), (8, 0, 24, 7)])
theorem zyw_M_figure : zv_wf zy_M_figure = true := by decide +kernel
theorem zye_M_figure : zv_ek2 zy_M_figure = true := by decide +kernel
def zf_M_figure (x1 : Int) (x2 : Int) (x3 : Int) (f0 : Int) (f1 : Int) (g0 : (Int → Int)) (g1 : (Int → Int)) (g2 : (Int → Int)) (g3 : (Int → Int)) (g4 : (Int → Int)) (g5 : (Int → Int)) (g6 : (Int → Int)) (g7 : (Int → Int)) : Option (Int × Int × (Int → Int) × (Int → Int) × (Int → Int)) := (zf_M_isPlace x1 x2).bind fun r1 => (if r1 = 0 then (some ((-1), f1, g2, g6, g7)) else ((zf_M_isTold x3 g0).bind fun r3 => (if r3 = 0 then (some ((-1), f1, g2, g6, g7)) else ((zf_M_looks (zi_w ((zi_w (24 * x2)) + x1)) f0 f1 g0 g1 g2 g3 g4 g5 g6 g7).bind fun r5 => ((zf_M_has r5.1 x3).bind fun r6 => (if r6 = 0 then (some ((-2), r5.1, r5.2.1, r5.2.2.1, r5.2.2.2)) else ((zf_M_figureOf x3 r5.2.2.2).bind fun r8 => (some (r8, r5.1, r5.2.1, r5.2.2.1, r5.2.2.2)))))))))
theorem zd262_0 : decode zxm262.2.1 0 = .ok (.iload_n 1, 1) := by decide +kernel
theorem zd262_1 : decode zxm262.2.1 1 = .ok (.iload_n 2, 1) := by decide +kernel
theorem zd262_2 : decode zxm262.2.1 2 = .ok (.invokestatic 154, 3) := by decide +kernel
theorem zd262_5 : decode zxm262.2.1 5 = .ok (.ifCond .eq 11, 3) := by decide +kernel
theorem zd262_8 : decode zxm262.2.1 8 = .ok (.aload_n 0, 1) := by decide +kernel
theorem zd262_9 : decode zxm262.2.1 9 = .ok (.iload_n 3, 1) := by decide +kernel
theorem zd262_10 : decode zxm262.2.1 10 = .ok (.invokevirtual 157, 3) := by decide +kernel
theorem zd262_13 : decode zxm262.2.1 13 = .ok (.ifCond .ne 5, 3) := by decide +kernel
theorem zd262_16 : decode zxm262.2.1 16 = .ok (.iconst (-1), 1) := by decide +kernel
theorem zd262_17 : decode zxm262.2.1 17 = .ok (.ireturn, 1) := by decide +kernel
theorem zd262_18 : decode zxm262.2.1 18 = .ok (.aload_n 0, 1) := by decide +kernel
theorem zd262_19 : decode zxm262.2.1 19 = .ok (.bipush 24, 2) := by decide +kernel
theorem zd262_21 : decode zxm262.2.1 21 = .ok (.iload_n 2, 1) := by decide +kernel
theorem zd262_22 : decode zxm262.2.1 22 = .ok (.imul, 1) := by decide +kernel
theorem zd262_23 : decode zxm262.2.1 23 = .ok (.iload_n 1, 1) := by decide +kernel
theorem zd262_24 : decode zxm262.2.1 24 = .ok (.iadd, 1) := by decide +kernel
theorem zd262_25 : decode zxm262.2.1 25 = .ok (.invokevirtual 309, 3) := by decide +kernel
theorem zd262_28 : decode zxm262.2.1 28 = .ok (.aload_n 0, 1) := by decide +kernel
theorem zd262_29 : decode zxm262.2.1 29 = .ok (.getfield 303, 3) := by decide +kernel
theorem zd262_32 : decode zxm262.2.1 32 = .ok (.iload_n 3, 1) := by decide +kernel
theorem zd262_33 : decode zxm262.2.1 33 = .ok (.invokestatic 138, 3) := by decide +kernel
theorem zd262_36 : decode zxm262.2.1 36 = .ok (.ifCond .eq 11, 3) := by decide +kernel
theorem zd262_39 : decode zxm262.2.1 39 = .ok (.aload_n 0, 1) := by decide +kernel
theorem zd262_40 : decode zxm262.2.1 40 = .ok (.iload_n 3, 1) := by decide +kernel
theorem zd262_41 : decode zxm262.2.1 41 = .ok (.invokevirtual 318, 3) := by decide +kernel
theorem zd262_44 : decode zxm262.2.1 44 = .ok (.goto 5, 3) := by decide +kernel
theorem zd262_47 : decode zxm262.2.1 47 = .ok (.bipush (-2), 2) := by decide +kernel
theorem zd262_49 : decode zxm262.2.1 49 = .ok (.ireturn, 1) := by decide +kernel
theorem zt_M_figure {x1 : Int} {x2 : Int} {x3 : Int} {f0 : Int} {f1 : Int} {g0 : (Int → Int)} {g1 : (Int → Int)} {g2 : (Int → Int)} {g3 : (Int → Int)} {g4 : (Int → Int)} {g5 : (Int → Int)} {g6 : (Int → Int)} {g7 : (Int → Int)} {o : Int × Int × (Int → Int) × (Int → Int) × (Int → Int)} (h : zf_M_figure x1 x2 x3 f0 f1 g0 g1 g2 g3 g4 g5 g6 g7 = some o) : zv_Fn z_TB z_cl z_KX zy_M_figure zxm262 (6, 360) [.inr 0, .inl x1, .inl x2, .inl x3] [.inl f0, .inl f1] [g0, g1, g2, g3, g4, g5, g6, g7] (some o.1) [.inl f0, .inl o.2.1] [g0, g1, o.2.2.1, g3, g4, g5, o.2.2.2.1, o.2.2.2.2] := zv_meth (K := (z_KF13, z_KC13, z_KL13, z_KT13, [], [], [], none)) (FT := z_FT) (MT := z_MT) (n := 4) zxp262 (z_ks13 _ (fun _ h => List.mem_cons_of_mem _ h) _ _ _ _ (fun j r h _ => by cases h)) (fun _ _ => zs_KX_p) zyw_M_figure (fun va F G h => by obtain ⟨rfl, _⟩ := h; rfl) (fun va F G h => by obtain ⟨rfl, _⟩ := h; rfl) rfl fun good va F G hB hret hvret hP => by
  obtain ⟨rfl, rfl, rfl⟩ := hP
  unfold zf_M_figure at h
  refine zv_ild hB zd262_0 rfl rfl ?_
  refine zv_ild hB zd262_1 rfl rfl ?_
  obtain ⟨r1, hr1, h⟩ := zi_bind h
  refine zv_cs hB (zv_emq (va2 := [.inl x1, .inl x2]) (F := [.inl f0, .inl f1]) (F' := [.inl f0, .inl f1]) (G := [g0, g1, g2, g3, g4, g5, g6, g7]) (G' := [g0, g1, g2, g3, g4, g5, g6, g7]) (ρ := []) (φ := []) (ψ := []) [none, none] [none, none, none, none, none, none, none, none] zyw_M_isPlace zyw_M_figure zye_M_figure (by decide +kernel) (zt_M_isPlace hr1) trivial trivial rfl rfl rfl rfl rfl rfl rfl) zd262_2 zxt201 rfl (by decide) (by decide) rfl ?_
  refine zv_zeq hB zd262_5 rfl (fun hc2 => ?_) (fun hc2 => ?_)
  · rw [if_pos hc2] at h
    refine zv_con hB zd262_16 rfl ?_
    have hw := Option.some.inj h
    subst hw
    exact hret _ _ _ _ _ zd262_17 (by trivial) ⟨rfl, rfl, rfl⟩
  · rw [if_neg hc2] at h
    refine zv_ald hB zd262_8 rfl rfl rfl ?_
    refine zv_ild hB zd262_9 rfl rfl ?_
    obtain ⟨r3, hr3, h⟩ := zi_bind h
    refine zv_cv hB (zv_emq (va2 := [.inr 0, .inl x3]) (F := [.inl f0, .inl f1]) (F' := [.inl f0, .inl f1]) (G := [g0, g1, g2, g3, g4, g5, g6, g7]) (G' := [g0, g1, g2, g3, g4, g5, g6, g7]) (ρ := [0, 1]) (φ := []) (ψ := [0]) [none, none] [some 0, none, none, none, none, none, none, none] zyw_M_isTold zyw_M_figure zye_M_figure (by decide +kernel) (zt_M_isTold hr3) trivial ⟨rfl, trivial⟩ rfl rfl rfl rfl rfl rfl rfl) zd262_10 zxt203 rfl (by decide) (by decide) rfl ?_
    refine zv_zne hB zd262_13 rfl (fun hc4 => ?_) (fun hc4 => ?_)
    · rw [if_neg hc4] at h
      refine zv_ald hB zd262_18 rfl rfl rfl ?_
      refine zv_con hB zd262_19 rfl ?_
      refine zv_ild hB zd262_21 rfl rfl ?_
      refine zv_mulw hB zd262_22 ?_
      refine zv_ild hB zd262_23 rfl rfl ?_
      refine zv_addw hB zd262_24 ?_
      obtain ⟨r5, hr5, h⟩ := zi_bind h
      refine zv_cv hB (zv_emq (va2 := [.inr 0, .inl (zi_w ((zi_w (24 * x2)) + x1))]) (F := [.inl f0, .inl f1]) (F' := [.inl f0, .inl r5.1]) (G := [g0, g1, g2, g3, g4, g5, g6, g7]) (G' := [g0, g1, r5.2.1, g3, g4, g5, r5.2.2.1, r5.2.2.2]) (ρ := [0, 1, 2, 3, 4, 5, 6, 7, 8]) (φ := [0, 1]) (ψ := [0, 1, 2, 3, 4, 5, 6, 7]) [some 0, some 1] [some 0, some 1, some 2, some 3, some 4, some 5, some 6, some 7] zyw_M_looks zyw_M_figure zye_M_figure (by decide +kernel) (zt_M_looks hr5) ⟨⟨_, rfl, fun _ => rfl⟩, ⟨_, rfl, fun _ => rfl⟩, trivial⟩ ⟨rfl, rfl, rfl, rfl, rfl, rfl, rfl, rfl, trivial⟩ rfl rfl rfl rfl rfl rfl rfl) zd262_25 zxt252 rfl (by decide) (by decide) rfl ?_
      refine zv_ald hB zd262_28 rfl rfl rfl ?_
      refine zv_getf hB zd262_29 rfl rfl (fun _ _ => ?_)
      refine zv_ild hB zd262_32 rfl rfl ?_
      obtain ⟨r6, hr6, h⟩ := zi_bind h
      refine zv_cs hB (zv_emq (va2 := [.inl r5.1, .inl x3]) (F := [.inl f0, .inl r5.1]) (F' := [.inl f0, .inl r5.1]) (G := [g0, g1, r5.2.1, g3, g4, g5, r5.2.2.1, r5.2.2.2]) (G' := [g0, g1, r5.2.1, g3, g4, g5, r5.2.2.1, r5.2.2.2]) (ρ := []) (φ := []) (ψ := []) [none, none] [none, none, none, none, none, none, none, none] zyw_M_has zyw_M_figure zye_M_figure (by decide +kernel) (zt_M_has hr6) trivial trivial rfl rfl rfl rfl rfl rfl rfl) zd262_33 zxt204 rfl (by decide) (by decide) rfl ?_
      refine zv_zeq hB zd262_36 rfl (fun hc7 => ?_) (fun hc7 => ?_)
      · rw [if_pos hc7] at h
        refine zv_con hB zd262_47 rfl ?_
        have hw := Option.some.inj h
        subst hw
        exact hret _ _ _ _ _ zd262_49 (by trivial) ⟨rfl, rfl, rfl⟩
      · rw [if_neg hc7] at h
        refine zv_ald hB zd262_39 rfl rfl rfl ?_
        refine zv_ild hB zd262_40 rfl rfl ?_
        obtain ⟨r8, hr8, h⟩ := zi_bind h
        refine zv_cv hB (zv_emq (va2 := [.inr 0, .inl x3]) (F := [.inl f0, .inl r5.1]) (F' := [.inl f0, .inl r5.1]) (G := [g0, g1, r5.2.1, g3, g4, g5, r5.2.2.1, r5.2.2.2]) (G' := [g0, g1, r5.2.1, g3, g4, g5, r5.2.2.1, r5.2.2.2]) (ρ := [0, 8]) (φ := []) (ψ := [7]) [none, none] [none, none, none, none, none, none, none, some 0] zyw_M_figureOf zyw_M_figure zye_M_figure (by decide +kernel) (zt_M_figureOf hr8) trivial ⟨rfl, trivial⟩ rfl rfl rfl rfl rfl rfl rfl) zd262_41 zxt256 rfl (by decide) (by decide) rfl ?_
        refine zv_goto hB zd262_44 rfl ?_
        have hw := Option.some.inj h
        subst hw
        exact hret _ _ _ _ _ zd262_49 (by trivial) ⟨rfl, rfl, rfl⟩
    · rw [if_pos hc4] at h
      refine zv_con hB zd262_16 rfl ?_
      have hw := Option.some.inj h
      subst hw
      exact hret _ _ _ _ _ zd262_17 (by trivial) ⟨rfl, rfl, rfl⟩
/-! M_isName ()Z -/
-- names: 0 StarTalesModel('arg', 0), 1 (1, 220)(0, 12, 3)
-- fields: f0 = 0.place0_, f1 = 0.length0_; arrays: g0 = 1; out: [('ret', None)]
abbrev zy_M_isName : zNL := (2, [(0, 12)], [(0, 12, 5, 0), (0, 12, 6, 1)], [(0, 12, 3, 1)], [(1, 1, 220, 0)])
theorem zyw_M_isName : zv_wf zy_M_isName = true := by decide +kernel
theorem zye_M_isName : zv_ek2 zy_M_isName = true := by decide +kernel
def zf_M_isName (f0 : Int) (f1 : Int) (g0 : (Int → Int)) : Option (Int) := (zf_M_here f0 f1 g0).bind fun r1 => ((zf_M_in r1 65 72).bind fun r2 => (cond (zi_bo r2) (some r2) none))
theorem zd265_0 : decode zxm265.2.1 0 = .ok (.aload_n 0, 1) := by decide +kernel
theorem zd265_1 : decode zxm265.2.1 1 = .ok (.invokevirtual 182, 3) := by decide +kernel
theorem zd265_4 : decode zxm265.2.1 4 = .ok (.bipush 65, 2) := by decide +kernel
theorem zd265_6 : decode zxm265.2.1 6 = .ok (.bipush 72, 2) := by decide +kernel
theorem zd265_8 : decode zxm265.2.1 8 = .ok (.invokestatic 150, 3) := by decide +kernel
theorem zd265_11 : decode zxm265.2.1 11 = .ok (.ireturn, 1) := by decide +kernel
theorem zt_M_isName {f0 : Int} {f1 : Int} {g0 : (Int → Int)} {o : Int} (h : zf_M_isName f0 f1 g0 = some o) : zv_Fn z_TB z_cl z_KX zy_M_isName zxm265 (1, 60) [.inr 0] [.inl f0, .inl f1] [g0] (some o) [.inl f0, .inl f1] [g0] := zv_meth (K := (z_KF13, z_KC13, z_KL13, z_KT13, [], [], [], none)) (FT := z_FT) (MT := z_MT) (n := 1) zxp265 (z_ks13 _ (fun _ h => List.mem_cons_of_mem _ h) _ _ _ _ (fun j r h _ => by cases h)) (fun _ _ => zs_KX_p) zyw_M_isName (fun va F G h => by obtain ⟨rfl, _⟩ := h; rfl) (fun va F G h => by obtain ⟨rfl, _⟩ := h; rfl) rfl fun good va F G hB hret hvret hP => by
  obtain ⟨rfl, rfl, rfl⟩ := hP
  unfold zf_M_isName at h
  refine zv_ald hB zd265_0 rfl rfl rfl ?_
  obtain ⟨r1, hr1, h⟩ := zi_bind h
  refine zv_cv hB (zv_emq (va2 := [.inr 0]) (F := [.inl f0, .inl f1]) (F' := [.inl f0, .inl f1]) (G := [g0]) (G' := [g0]) (ρ := [0, 1]) (φ := [0, 1]) (ψ := [0]) [some 0, some 1] [some 0] zyw_M_here zyw_M_isName zye_M_isName (by decide +kernel) (zt_M_here hr1) ⟨⟨_, rfl, fun _ => rfl⟩, ⟨_, rfl, fun _ => rfl⟩, trivial⟩ ⟨rfl, trivial⟩ rfl rfl rfl rfl rfl rfl rfl) zd265_1 zxt217 rfl (by decide) (by decide) rfl ?_
  refine zv_con hB zd265_4 rfl ?_
  refine zv_con hB zd265_6 rfl ?_
  obtain ⟨r2, hr2, h⟩ := zi_bind h
  refine zv_cs hB (zv_emq (va2 := [.inl r1, .inl 65, .inl 72]) (F := [.inl f0, .inl f1]) (F' := [.inl f0, .inl f1]) (G := [g0]) (G' := [g0]) (ρ := []) (φ := []) (ψ := []) [none, none] [none] zyw_M_in zyw_M_isName zye_M_isName (by decide +kernel) (zt_M_in hr2) trivial trivial rfl rfl rfl rfl rfl rfl rfl) zd265_8 zxt200 rfl (by decide) (by decide) rfl ?_
  obtain ⟨c3, h⟩ := zi_if h
  have hw := Option.some.inj h
  subst hw
  exact hret _ _ _ _ _ zd265_11 (zi_bo_ok c3) ⟨rfl, rfl, rfl⟩
end
