/-! Methods as functions, and that they do what these do. -/
/-! M_log (II)I -/
-- names: 0 StarTalesModel('arg', 0), 1 (0, 12)(0, 12, 60), 2 (1, 220)(0, 12, 3), 3 (0, 12)(0, 12, 61), 4 (0, 288)(0, 12, 62), 5 (0, 422)(0, 12, 0), 6 (0, 422)(0, 12, 1), 7 (0, 14)(0, 12, 21), 8 (0, 13)(0, 12, 26), 9 (0, 14)(0, 12, 23), 10 (0, 14)(0, 12, 24), 11 (0, 220)(0, 12, 20), 12 (0, 220)(0, 12, 25), 13 (0, 24)(0, 12, 28), 14 (0, 8)(0, 12, 38), 15 (0, 8)(0, 12, 39), 16 (0, 12)(0, 12, 34), 17 (0, 12)(0, 12, 35), 18 (0, 8)(0, 12, 40)
-- fields: f0 = 0.taleLines_, f1 = 0.taped_, f2 = 0.clauses_, f3 = 0.seen0_, f4 = 0.nameMany_, f5 = 0.namesIn_; arrays: g0 = 1, g1 = 2, g2 = 3, g3 = 4, g4 = 5, g5 = 6, g6 = 7, g7 = 8, g8 = 9, g9 = 10, g10 = 11, g11 = 12, g12 = 13, g13 = 14, g14 = 15, g15 = 16, g16 = 17, g17 = 18; out: [('ret', None), ('f', 1), ('f', 3), ('f', 4), ('g', 0), ('g', 2), ('g', 3), ('g', 4), ('g', 5), ('g', 7), ('g', 11), ('g', 12), ('g', 13), ('g', 14), ('g', 17)]
abbrev zy_M_log : zNL := (19, [(0, 12)], [(0, 12, 31, 0), (0, 12, 4, 1), (0, 12, 13, 2), (0, 12, 27, 3), (0, 12, 41, 4), (0, 12, 33, 5)], [(0, 12, 60, 1), (0, 12, 3, 2), (0, 12, 61, 3), (0, 12, 62, 4), (0, 12, 0, 5), (0, 12, 1, 6), (0, 12, 21, 7), (0, 12, 26, 8), (0, 12, 23, 9), (0, 12, 24, 10), (0, 12, 20, 11), (0, 12, 25, 12), (0, 12, 28, 13), (0, 12, 38, 14), (0, 12, 39, 15), (0, 12, 34, 16), (0, 12, 35, 17), (0, 12, 40, 18)], [(1, 0, 12, 0), (2, 1, 220, 1), (3, 0, 12, 2), (4, 0, 288, 3), (5, 0, 422, 4), (6, 0, 422, 5), (7, 0, 14, 6), (8, 0, 13, 7), (9, 0, 14, 8), (10, 0, 14, 9), (11, 0, 220, 10), (12, 0, 220, 11), (13, 0, 24, 12), (14, 0, 8, 13), (15, 0, 8, 14), (16, 0, 12, 15), (17, 0, 12, 16), (18, 0, 8, 17)])
theorem zyw_M_log : zv_wf zy_M_log = true := by decide +kernel
theorem zye_M_log : zv_ek2 zy_M_log = true := by decide +kernel
def zf_M_log_l0_b (g4 : (Int → Int)) (rec : Int → (Int → Int) → Option ((Int → Int))) (x3 : Int) (g3 : (Int → Int)) : Option ((Int → Int)) := if x3 < 288 then ((zf_M_isLand x3 g4).bind fun r10 => (if r10 = 0 then (cond (zi_ix x3 288) (rec (zi_w (x3 + 1)) (zv_up g3 x3 x3)) none) else (cond (zi_ix x3 288) (rec (zi_w (x3 + 1)) (zv_up g3 x3 (-1))) none))) else (some g3)
def zf_M_log_l0 (g4 : (Int → Int)) : Nat → Int → (Int → Int) → Option ((Int → Int))
  | 0, _, _ => none
  | n + 1, x3, g3 => zf_M_log_l0_b g4 (zf_M_log_l0 g4 n) x3 g3
def zf_M_log_l2_b (x1 : Int) (x3 : Int) (f0 : Int) (f2 : Int) (f5 : Int) (g0 : (Int → Int)) (g2 : (Int → Int)) (g4 : (Int → Int)) (g6 : (Int → Int)) (g8 : (Int → Int)) (g9 : (Int → Int)) (g10 : (Int → Int)) (g15 : (Int → Int)) (g16 : (Int → Int)) (rec : Int → Int → Int → (Int → Int) → (Int → Int) → (Int → Int) → (Int → Int) → (Int → Int) → (Int → Int) → (Int → Int) → Option (Int × Int × (Int → Int) × (Int → Int) × (Int → Int) × (Int → Int) × (Int → Int) × (Int → Int) × (Int → Int))) (x4 : Int) (f3 : Int) (f4 : Int) (g3 : (Int → Int)) (g7 : (Int → Int)) (g11 : (Int → Int)) (g12 : (Int → Int)) (g13 : (Int → Int)) (g14 : (Int → Int)) (g17 : (Int → Int)) : Option (Int × Int × (Int → Int) × (Int → Int) × (Int → Int) × (Int → Int) × (Int → Int) × (Int → Int) × (Int → Int)) := if x4 < 288 then (cond (zi_ix x4 288) (if (g3 x4) = (-1) then (rec (zi_w (x4 + 1)) f3 f4 g3 g7 g11 g12 g13 g14 g17) else ((zf_M_canBeTold (g3 x4) f2 f3 f4 f5 f0 g4 g6 g7 g8 g9 g10 g11 g12 g13 g14 g15 g16 g17).bind fun r20 => (cond (zi_ix x3 12) (if (g0 x3) = 1 then (if r20.1 = 1 then (if (zi_w (x3 + 1)) < x1 then ((zf_M_goesTo (g3 x4) (g2 x3)).bind fun r40 => (if ((zv_up g3 x4 r40) x4) = (-1) then (rec (zi_w (x4 + 1)) r20.2.1 r20.2.2.1 (zv_up g3 x4 r40) r20.2.2.2.1 r20.2.2.2.2.1 r20.2.2.2.2.2.1 r20.2.2.2.2.2.2.1 r20.2.2.2.2.2.2.2.1 r20.2.2.2.2.2.2.2.2) else ((zf_M_isLand ((zv_up g3 x4 r40) x4) g4).bind fun r42 => (if r42 = 0 then (rec (zi_w (x4 + 1)) r20.2.1 r20.2.2.1 (zv_up g3 x4 r40) r20.2.2.2.1 r20.2.2.2.2.1 r20.2.2.2.2.2.1 r20.2.2.2.2.2.2.1 r20.2.2.2.2.2.2.2.1 r20.2.2.2.2.2.2.2.2) else (rec (zi_w (x4 + 1)) r20.2.1 r20.2.2.1 (zv_up (zv_up g3 x4 r40) x4 (-1)) r20.2.2.2.1 r20.2.2.2.2.1 r20.2.2.2.2.2.1 r20.2.2.2.2.2.2.1 r20.2.2.2.2.2.2.2.1 r20.2.2.2.2.2.2.2.2))))) else ((zf_M_isLand (g3 x4) g4).bind fun r38 => (if r38 = 0 then (rec (zi_w (x4 + 1)) r20.2.1 r20.2.2.1 g3 r20.2.2.2.1 r20.2.2.2.2.1 r20.2.2.2.2.2.1 r20.2.2.2.2.2.2.1 r20.2.2.2.2.2.2.2.1 r20.2.2.2.2.2.2.2.2) else (rec (zi_w (x4 + 1)) r20.2.1 r20.2.2.1 (zv_up g3 x4 (-1)) r20.2.2.2.1 r20.2.2.2.2.1 r20.2.2.2.2.2.1 r20.2.2.2.2.2.2.1 r20.2.2.2.2.2.2.2.1 r20.2.2.2.2.2.2.2.2)))) else (if ((zv_up g3 x4 (-1)) x4) = (-1) then (rec (zi_w (x4 + 1)) r20.2.1 r20.2.2.1 (zv_up g3 x4 (-1)) r20.2.2.2.1 r20.2.2.2.2.1 r20.2.2.2.2.2.1 r20.2.2.2.2.2.2.1 r20.2.2.2.2.2.2.2.1 r20.2.2.2.2.2.2.2.2) else ((zf_M_isLand ((zv_up g3 x4 (-1)) x4) g4).bind fun r45 => (if r45 = 0 then (rec (zi_w (x4 + 1)) r20.2.1 r20.2.2.1 (zv_up g3 x4 (-1)) r20.2.2.2.1 r20.2.2.2.2.1 r20.2.2.2.2.2.1 r20.2.2.2.2.2.2.1 r20.2.2.2.2.2.2.2.1 r20.2.2.2.2.2.2.2.2) else (rec (zi_w (x4 + 1)) r20.2.1 r20.2.2.1 (zv_up (zv_up g3 x4 (-1)) x4 (-1)) r20.2.2.2.1 r20.2.2.2.2.1 r20.2.2.2.2.2.1 r20.2.2.2.2.2.2.1 r20.2.2.2.2.2.2.2.1 r20.2.2.2.2.2.2.2.2))))) else (if r20.1 = 0 then (if (zi_w (x3 + 1)) < x1 then ((zf_M_goesTo (g3 x4) (g2 x3)).bind fun r28 => (if ((zv_up g3 x4 r28) x4) = (-1) then (rec (zi_w (x4 + 1)) r20.2.1 r20.2.2.1 (zv_up g3 x4 r28) r20.2.2.2.1 r20.2.2.2.2.1 r20.2.2.2.2.2.1 r20.2.2.2.2.2.2.1 r20.2.2.2.2.2.2.2.1 r20.2.2.2.2.2.2.2.2) else ((zf_M_isLand ((zv_up g3 x4 r28) x4) g4).bind fun r30 => (if r30 = 0 then (rec (zi_w (x4 + 1)) r20.2.1 r20.2.2.1 (zv_up g3 x4 r28) r20.2.2.2.1 r20.2.2.2.2.1 r20.2.2.2.2.2.1 r20.2.2.2.2.2.2.1 r20.2.2.2.2.2.2.2.1 r20.2.2.2.2.2.2.2.2) else (rec (zi_w (x4 + 1)) r20.2.1 r20.2.2.1 (zv_up (zv_up g3 x4 r28) x4 (-1)) r20.2.2.2.1 r20.2.2.2.2.1 r20.2.2.2.2.2.1 r20.2.2.2.2.2.2.1 r20.2.2.2.2.2.2.2.1 r20.2.2.2.2.2.2.2.2))))) else ((zf_M_isLand (g3 x4) g4).bind fun r26 => (if r26 = 0 then (rec (zi_w (x4 + 1)) r20.2.1 r20.2.2.1 g3 r20.2.2.2.1 r20.2.2.2.2.1 r20.2.2.2.2.2.1 r20.2.2.2.2.2.2.1 r20.2.2.2.2.2.2.2.1 r20.2.2.2.2.2.2.2.2) else (rec (zi_w (x4 + 1)) r20.2.1 r20.2.2.1 (zv_up g3 x4 (-1)) r20.2.2.2.1 r20.2.2.2.2.1 r20.2.2.2.2.2.1 r20.2.2.2.2.2.2.1 r20.2.2.2.2.2.2.2.1 r20.2.2.2.2.2.2.2.2)))) else (if ((zv_up g3 x4 (-1)) x4) = (-1) then (rec (zi_w (x4 + 1)) r20.2.1 r20.2.2.1 (zv_up g3 x4 (-1)) r20.2.2.2.1 r20.2.2.2.2.1 r20.2.2.2.2.2.1 r20.2.2.2.2.2.2.1 r20.2.2.2.2.2.2.2.1 r20.2.2.2.2.2.2.2.2) else ((zf_M_isLand ((zv_up g3 x4 (-1)) x4) g4).bind fun r33 => (if r33 = 0 then (rec (zi_w (x4 + 1)) r20.2.1 r20.2.2.1 (zv_up g3 x4 (-1)) r20.2.2.2.1 r20.2.2.2.2.1 r20.2.2.2.2.2.1 r20.2.2.2.2.2.2.1 r20.2.2.2.2.2.2.2.1 r20.2.2.2.2.2.2.2.2) else (rec (zi_w (x4 + 1)) r20.2.1 r20.2.2.1 (zv_up (zv_up g3 x4 (-1)) x4 (-1)) r20.2.2.2.1 r20.2.2.2.2.1 r20.2.2.2.2.2.1 r20.2.2.2.2.2.2.1 r20.2.2.2.2.2.2.2.1 r20.2.2.2.2.2.2.2.2)))))) none))) none) else (some (f3, f4, g3, g7, g11, g12, g13, g14, g17))
def zf_M_log_l2 (x1 : Int) (x3 : Int) (f0 : Int) (f2 : Int) (f5 : Int) (g0 : (Int → Int)) (g2 : (Int → Int)) (g4 : (Int → Int)) (g6 : (Int → Int)) (g8 : (Int → Int)) (g9 : (Int → Int)) (g10 : (Int → Int)) (g15 : (Int → Int)) (g16 : (Int → Int)) : Nat → Int → Int → Int → (Int → Int) → (Int → Int) → (Int → Int) → (Int → Int) → (Int → Int) → (Int → Int) → (Int → Int) → Option (Int × Int × (Int → Int) × (Int → Int) × (Int → Int) × (Int → Int) × (Int → Int) × (Int → Int) × (Int → Int))
  | 0, _, _, _, _, _, _, _, _, _, _ => none
  | n + 1, x4, f3, f4, g3, g7, g11, g12, g13, g14, g17 => zf_M_log_l2_b x1 x3 f0 f2 f5 g0 g2 g4 g6 g8 g9 g10 g15 g16 (zf_M_log_l2 x1 x3 f0 f2 f5 g0 g2 g4 g6 g8 g9 g10 g15 g16 n) x4 f3 f4 g3 g7 g11 g12 g13 g14 g17
def zf_M_log_l1_b (x1 : Int) (f0 : Int) (f2 : Int) (f5 : Int) (g0 : (Int → Int)) (g2 : (Int → Int)) (g6 : (Int → Int)) (g8 : (Int → Int)) (g9 : (Int → Int)) (g10 : (Int → Int)) (g15 : (Int → Int)) (g16 : (Int → Int)) (rec : Int → Int → Int → (Int → Int) → (Int → Int) → (Int → Int) → (Int → Int) → (Int → Int) → (Int → Int) → (Int → Int) → (Int → Int) → Option (Int × Int × (Int → Int) × (Int → Int) × (Int → Int) × (Int → Int) × (Int → Int) × (Int → Int) × (Int → Int) × (Int → Int))) (x3 : Int) (f3 : Int) (f4 : Int) (g3 : (Int → Int)) (g4 : (Int → Int)) (g7 : (Int → Int)) (g11 : (Int → Int)) (g12 : (Int → Int)) (g13 : (Int → Int)) (g14 : (Int → Int)) (g17 : (Int → Int)) : Option (Int × Int × (Int → Int) × (Int → Int) × (Int → Int) × (Int → Int) × (Int → Int) × (Int → Int) × (Int → Int) × (Int → Int)) := if x3 < x1 then ((zf_M_log_l2 x1 x3 f0 f2 f5 g0 g2 g4 g6 g8 g9 g10 g15 g16 zi_fu 0 f3 f4 g3 g7 g11 g12 g13 g14 g17).bind fun q47 => ((zf_M_passes g4).bind fun r48 => (rec (zi_w (x3 + 1)) q47.1 q47.2.1 q47.2.2.1 r48 q47.2.2.2.1 q47.2.2.2.2.1 q47.2.2.2.2.2.1 q47.2.2.2.2.2.2.1 q47.2.2.2.2.2.2.2.1 q47.2.2.2.2.2.2.2.2))) else (some (f3, f4, g3, g4, g7, g11, g12, g13, g14, g17))
def zf_M_log_l1 (x1 : Int) (f0 : Int) (f2 : Int) (f5 : Int) (g0 : (Int → Int)) (g2 : (Int → Int)) (g6 : (Int → Int)) (g8 : (Int → Int)) (g9 : (Int → Int)) (g10 : (Int → Int)) (g15 : (Int → Int)) (g16 : (Int → Int)) : Nat → Int → Int → Int → (Int → Int) → (Int → Int) → (Int → Int) → (Int → Int) → (Int → Int) → (Int → Int) → (Int → Int) → (Int → Int) → Option (Int × Int × (Int → Int) × (Int → Int) × (Int → Int) × (Int → Int) × (Int → Int) × (Int → Int) × (Int → Int) × (Int → Int))
  | 0, _, _, _, _, _, _, _, _, _, _, _ => none
  | n + 1, x3, f3, f4, g3, g4, g7, g11, g12, g13, g14, g17 => zf_M_log_l1_b x1 f0 f2 f5 g0 g2 g6 g8 g9 g10 g15 g16 (zf_M_log_l1 x1 f0 f2 f5 g0 g2 g6 g8 g9 g10 g15 g16 n) x3 f3 f4 g3 g4 g7 g11 g12 g13 g14 g17
def zf_M_log_l3_b (g3 : (Int → Int)) (rec : Int → Int → Int → Option (Int × Int)) (x3 : Int) (x4 : Int) (x5 : Int) : Option (Int × Int) := if x5 < 288 then (cond (zi_ix x5 288) (if (g3 x5) = (-1) then (rec x3 x4 (zi_w (x5 + 1))) else (if x3 = 0 then (rec (zi_w (x3 + 1)) x5 (zi_w (x5 + 1))) else (rec (zi_w (x3 + 1)) x4 (zi_w (x5 + 1))))) none) else (some (x3, x4))
def zf_M_log_l3 (g3 : (Int → Int)) : Nat → Int → Int → Int → Option (Int × Int)
  | 0, _, _, _ => none
  | n + 1, x3, x4, x5 => zf_M_log_l3_b g3 (zf_M_log_l3 g3 n) x3 x4 x5
def zf_M_log (x1 : Int) (x2 : Int) (f0 : Int) (f1 : Int) (f2 : Int) (f3 : Int) (f4 : Int) (f5 : Int) (g0 : (Int → Int)) (g1 : (Int → Int)) (g2 : (Int → Int)) (g3 : (Int → Int)) (g4 : (Int → Int)) (g5 : (Int → Int)) (g6 : (Int → Int)) (g7 : (Int → Int)) (g8 : (Int → Int)) (g9 : (Int → Int)) (g10 : (Int → Int)) (g11 : (Int → Int)) (g12 : (Int → Int)) (g13 : (Int → Int)) (g14 : (Int → Int)) (g15 : (Int → Int)) (g16 : (Int → Int)) (g17 : (Int → Int)) : Option (Int × Int × Int × Int × (Int → Int) × (Int → Int) × (Int → Int) × (Int → Int) × (Int → Int) × (Int → Int) × (Int → Int) × (Int → Int) × (Int → Int) × (Int → Int) × (Int → Int)) := (zf_M_in x1 1 12).bind fun r1 => (if r1 = 0 then (some ((-1), f1, f3, f4, g0, g2, g3, g4, g5, g7, g11, g12, g13, g14, g17)) else ((zf_M_in x2 0 1).bind fun r3 => (if r3 = 0 then (some ((-1), f1, f3, f4, g0, g2, g3, g4, g5, g7, g11, g12, g13, g14, g17)) else (if f0 = 0 then (some ((-1), f1, f3, f4, g0, g2, g3, g4, g5, g7, g11, g12, g13, g14, g17)) else (if f1 < (zi_w (2 * x1)) then (some ((-1), f1, f3, f4, g0, g2, g3, g4, g5, g7, g11, g12, g13, g14, g17)) else ((zf_M_takesLog x1 g0 g1 g2).bind fun r7 => (if r7.1 = 0 then (some ((-2), 0, f3, f4, r7.2.1, r7.2.2, g3, g4, g5, g7, g11, g12, g13, g14, g17)) else ((zf_M_log_l0 g4 zi_fu 0 g3).bind fun q14 => ((zf_M_begins g4 g5).bind fun r15 => ((zf_M_log_l1 x1 f0 f2 f5 r7.2.1 r7.2.2 g6 g8 g9 g10 g15 g16 zi_fu 0 f3 f4 q14 g4 g7 g11 g12 g13 g14 g17).bind fun q49 => ((zf_M_again r15 q49.2.2.2.1).bind fun r50 => ((zf_M_log_l3 q49.2.2.1 zi_fu 0 (-2) 0).bind fun q55 => (if x2 = 0 then (some (q55.1, 0, q49.1, q49.2.1, r7.2.1, r7.2.2, q49.2.2.1, r50, r15, q49.2.2.2.2.1, q49.2.2.2.2.2.1, q49.2.2.2.2.2.2.1, q49.2.2.2.2.2.2.2.1, q49.2.2.2.2.2.2.2.2.1, q49.2.2.2.2.2.2.2.2.2)) else (some (q55.2, 0, q49.1, q49.2.1, r7.2.1, r7.2.2, q49.2.2.1, r50, r15, q49.2.2.2.2.1, q49.2.2.2.2.2.1, q49.2.2.2.2.2.2.1, q49.2.2.2.2.2.2.2.1, q49.2.2.2.2.2.2.2.2.1, q49.2.2.2.2.2.2.2.2.2)))))))))))))))
theorem zd314_0 : decode zxm314.2.1 0 = .ok (.iload_n 1, 1) := by decide +kernel
theorem zd314_1 : decode zxm314.2.1 1 = .ok (.iconst 1, 1) := by decide +kernel
theorem zd314_2 : decode zxm314.2.1 2 = .ok (.bipush 12, 2) := by decide +kernel
theorem zd314_4 : decode zxm314.2.1 4 = .ok (.invokestatic 150, 3) := by decide +kernel
theorem zd314_7 : decode zxm314.2.1 7 = .ok (.ifCond .eq 29, 3) := by decide +kernel
theorem zd314_10 : decode zxm314.2.1 10 = .ok (.iload_n 2, 1) := by decide +kernel
theorem zd314_11 : decode zxm314.2.1 11 = .ok (.iconst 0, 1) := by decide +kernel
theorem zd314_12 : decode zxm314.2.1 12 = .ok (.iconst 1, 1) := by decide +kernel
theorem zd314_13 : decode zxm314.2.1 13 = .ok (.invokestatic 150, 3) := by decide +kernel
theorem zd314_16 : decode zxm314.2.1 16 = .ok (.ifCond .eq 20, 3) := by decide +kernel
theorem zd314_19 : decode zxm314.2.1 19 = .ok (.aload_n 0, 1) := by decide +kernel
theorem zd314_20 : decode zxm314.2.1 20 = .ok (.getfield 351, 3) := by decide +kernel
theorem zd314_23 : decode zxm314.2.1 23 = .ok (.ifCond .eq 13, 3) := by decide +kernel
theorem zd314_26 : decode zxm314.2.1 26 = .ok (.iconst 2, 1) := by decide +kernel
theorem zd314_27 : decode zxm314.2.1 27 = .ok (.iload_n 1, 1) := by decide +kernel
theorem zd314_28 : decode zxm314.2.1 28 = .ok (.imul, 1) := by decide +kernel
theorem zd314_29 : decode zxm314.2.1 29 = .ok (.aload_n 0, 1) := by decide +kernel
theorem zd314_30 : decode zxm314.2.1 30 = .ok (.getfield 168, 3) := by decide +kernel
theorem zd314_33 : decode zxm314.2.1 33 = .ok (.if_icmp .le 5, 3) := by decide +kernel
theorem zd314_36 : decode zxm314.2.1 36 = .ok (.iconst (-1), 1) := by decide +kernel
theorem zd314_37 : decode zxm314.2.1 37 = .ok (.ireturn, 1) := by decide +kernel
theorem zd314_38 : decode zxm314.2.1 38 = .ok (.aload_n 0, 1) := by decide +kernel
theorem zd314_39 : decode zxm314.2.1 39 = .ok (.iconst 0, 1) := by decide +kernel
theorem zd314_40 : decode zxm314.2.1 40 = .ok (.putfield 168, 3) := by decide +kernel
theorem zd314_43 : decode zxm314.2.1 43 = .ok (.aload_n 0, 1) := by decide +kernel
theorem zd314_44 : decode zxm314.2.1 44 = .ok (.iload_n 1, 1) := by decide +kernel
theorem zd314_45 : decode zxm314.2.1 45 = .ok (.invokevirtual 475, 3) := by decide +kernel
theorem zd314_48 : decode zxm314.2.1 48 = .ok (.ifCond .ne 6, 3) := by decide +kernel
theorem zd314_51 : decode zxm314.2.1 51 = .ok (.bipush (-2), 2) := by decide +kernel
theorem zd314_53 : decode zxm314.2.1 53 = .ok (.ireturn, 1) := by decide +kernel
theorem zd314_54 : decode zxm314.2.1 54 = .ok (.iconst 0, 1) := by decide +kernel
theorem zd314_55 : decode zxm314.2.1 55 = .ok (.istore_n 3, 1) := by decide +kernel
theorem zd314_56 : decode zxm314.2.1 56 = .ok (.iload_n 3, 1) := by decide +kernel
theorem zd314_57 : decode zxm314.2.1 57 = .ok (.sipush 288, 3) := by decide +kernel
theorem zd314_60 : decode zxm314.2.1 60 = .ok (.if_icmp .ge 28, 3) := by decide +kernel
theorem zd314_63 : decode zxm314.2.1 63 = .ok (.aload_n 0, 1) := by decide +kernel
theorem zd314_64 : decode zxm314.2.1 64 = .ok (.getfield 131, 3) := by decide +kernel
theorem zd314_67 : decode zxm314.2.1 67 = .ok (.iload_n 3, 1) := by decide +kernel
theorem zd314_68 : decode zxm314.2.1 68 = .ok (.aload_n 0, 1) := by decide +kernel
theorem zd314_69 : decode zxm314.2.1 69 = .ok (.iload_n 3, 1) := by decide +kernel
theorem zd314_70 : decode zxm314.2.1 70 = .ok (.invokevirtual 165, 3) := by decide +kernel
theorem zd314_73 : decode zxm314.2.1 73 = .ok (.ifCond .eq 7, 3) := by decide +kernel
theorem zd314_76 : decode zxm314.2.1 76 = .ok (.iconst (-1), 1) := by decide +kernel
theorem zd314_77 : decode zxm314.2.1 77 = .ok (.goto 4, 3) := by decide +kernel
theorem zd314_80 : decode zxm314.2.1 80 = .ok (.iload_n 3, 1) := by decide +kernel
theorem zd314_81 : decode zxm314.2.1 81 = .ok (.iastore, 1) := by decide +kernel
theorem zd314_82 : decode zxm314.2.1 82 = .ok (.iinc 3 1, 3) := by decide +kernel
theorem zd314_85 : decode zxm314.2.1 85 = .ok (.goto (-29), 3) := by decide +kernel
theorem zd314_88 : decode zxm314.2.1 88 = .ok (.aload_n 0, 1) := by decide +kernel
theorem zd314_89 : decode zxm314.2.1 89 = .ok (.invokevirtual 434, 3) := by decide +kernel
theorem zd314_92 : decode zxm314.2.1 92 = .ok (.iconst 0, 1) := by decide +kernel
theorem zd314_93 : decode zxm314.2.1 93 = .ok (.istore_n 3, 1) := by decide +kernel
theorem zd314_94 : decode zxm314.2.1 94 = .ok (.iload_n 3, 1) := by decide +kernel
theorem zd314_95 : decode zxm314.2.1 95 = .ok (.iload_n 1, 1) := by decide +kernel
theorem zd314_96 : decode zxm314.2.1 96 = .ok (.if_icmp .ge 147, 3) := by decide +kernel
theorem zd314_99 : decode zxm314.2.1 99 = .ok (.iconst 0, 1) := by decide +kernel
theorem zd314_100 : decode zxm314.2.1 100 = .ok (.istore 4, 2) := by decide +kernel
theorem zd314_102 : decode zxm314.2.1 102 = .ok (.iload 4, 2) := by decide +kernel
theorem zd314_104 : decode zxm314.2.1 104 = .ok (.sipush 288, 3) := by decide +kernel
theorem zd314_107 : decode zxm314.2.1 107 = .ok (.if_icmp .ge 126, 3) := by decide +kernel
theorem zd314_110 : decode zxm314.2.1 110 = .ok (.aload_n 0, 1) := by decide +kernel
theorem zd314_111 : decode zxm314.2.1 111 = .ok (.getfield 131, 3) := by decide +kernel
theorem zd314_114 : decode zxm314.2.1 114 = .ok (.iload 4, 2) := by decide +kernel
theorem zd314_116 : decode zxm314.2.1 116 = .ok (.iaload, 1) := by decide +kernel
theorem zd314_117 : decode zxm314.2.1 117 = .ok (.iconst (-1), 1) := by decide +kernel
theorem zd314_118 : decode zxm314.2.1 118 = .ok (.if_icmp .ne 6, 3) := by decide +kernel
theorem zd314_121 : decode zxm314.2.1 121 = .ok (.goto 106, 3) := by decide +kernel
theorem zd314_124 : decode zxm314.2.1 124 = .ok (.aload_n 0, 1) := by decide +kernel
theorem zd314_125 : decode zxm314.2.1 125 = .ok (.aload_n 0, 1) := by decide +kernel
theorem zd314_126 : decode zxm314.2.1 126 = .ok (.getfield 131, 3) := by decide +kernel
theorem zd314_129 : decode zxm314.2.1 129 = .ok (.iload 4, 2) := by decide +kernel
theorem zd314_131 : decode zxm314.2.1 131 = .ok (.iaload, 1) := by decide +kernel
theorem zd314_132 : decode zxm314.2.1 132 = .ok (.invokevirtual 369, 3) := by decide +kernel
theorem zd314_135 : decode zxm314.2.1 135 = .ok (.aload_n 0, 1) := by decide +kernel
theorem zd314_136 : decode zxm314.2.1 136 = .ok (.getfield 125, 3) := by decide +kernel
theorem zd314_139 : decode zxm314.2.1 139 = .ok (.iload_n 3, 1) := by decide +kernel
theorem zd314_140 : decode zxm314.2.1 140 = .ok (.iaload, 1) := by decide +kernel
theorem zd314_141 : decode zxm314.2.1 141 = .ok (.iconst 1, 1) := by decide +kernel
theorem zd314_142 : decode zxm314.2.1 142 = .ok (.if_icmp .ne 7, 3) := by decide +kernel
theorem zd314_145 : decode zxm314.2.1 145 = .ok (.iconst 1, 1) := by decide +kernel
theorem zd314_146 : decode zxm314.2.1 146 = .ok (.goto 4, 3) := by decide +kernel
theorem zd314_149 : decode zxm314.2.1 149 = .ok (.iconst 0, 1) := by decide +kernel
theorem zd314_150 : decode zxm314.2.1 150 = .ok (.if_icmp .eq 14, 3) := by decide +kernel
theorem zd314_153 : decode zxm314.2.1 153 = .ok (.aload_n 0, 1) := by decide +kernel
theorem zd314_154 : decode zxm314.2.1 154 = .ok (.getfield 131, 3) := by decide +kernel
theorem zd314_157 : decode zxm314.2.1 157 = .ok (.iload 4, 2) := by decide +kernel
theorem zd314_159 : decode zxm314.2.1 159 = .ok (.iconst (-1), 1) := by decide +kernel
theorem zd314_160 : decode zxm314.2.1 160 = .ok (.iastore, 1) := by decide +kernel
theorem zd314_161 : decode zxm314.2.1 161 = .ok (.goto 33, 3) := by decide +kernel
theorem zd314_164 : decode zxm314.2.1 164 = .ok (.iload_n 3, 1) := by decide +kernel
theorem zd314_165 : decode zxm314.2.1 165 = .ok (.iconst 1, 1) := by decide +kernel
theorem zd314_166 : decode zxm314.2.1 166 = .ok (.iadd, 1) := by decide +kernel
theorem zd314_167 : decode zxm314.2.1 167 = .ok (.iload_n 1, 1) := by decide +kernel
theorem zd314_168 : decode zxm314.2.1 168 = .ok (.if_icmp .ge 26, 3) := by decide +kernel
theorem zd314_171 : decode zxm314.2.1 171 = .ok (.aload_n 0, 1) := by decide +kernel
theorem zd314_172 : decode zxm314.2.1 172 = .ok (.getfield 131, 3) := by decide +kernel
theorem zd314_175 : decode zxm314.2.1 175 = .ok (.iload 4, 2) := by decide +kernel
theorem zd314_177 : decode zxm314.2.1 177 = .ok (.aload_n 0, 1) := by decide +kernel
theorem zd314_178 : decode zxm314.2.1 178 = .ok (.getfield 131, 3) := by decide +kernel
theorem zd314_181 : decode zxm314.2.1 181 = .ok (.iload 4, 2) := by decide +kernel
theorem zd314_183 : decode zxm314.2.1 183 = .ok (.iaload, 1) := by decide +kernel
theorem zd314_184 : decode zxm314.2.1 184 = .ok (.aload_n 0, 1) := by decide +kernel
theorem zd314_185 : decode zxm314.2.1 185 = .ok (.getfield 128, 3) := by decide +kernel
theorem zd314_188 : decode zxm314.2.1 188 = .ok (.iload_n 3, 1) := by decide +kernel
theorem zd314_189 : decode zxm314.2.1 189 = .ok (.iaload, 1) := by decide +kernel
theorem zd314_190 : decode zxm314.2.1 190 = .ok (.invokestatic 440, 3) := by decide +kernel
theorem zd314_193 : decode zxm314.2.1 193 = .ok (.iastore, 1) := by decide +kernel
theorem zd314_194 : decode zxm314.2.1 194 = .ok (.aload_n 0, 1) := by decide +kernel
theorem zd314_195 : decode zxm314.2.1 195 = .ok (.getfield 131, 3) := by decide +kernel
theorem zd314_198 : decode zxm314.2.1 198 = .ok (.iload 4, 2) := by decide +kernel
theorem zd314_200 : decode zxm314.2.1 200 = .ok (.iaload, 1) := by decide +kernel
theorem zd314_201 : decode zxm314.2.1 201 = .ok (.iconst (-1), 1) := by decide +kernel
theorem zd314_202 : decode zxm314.2.1 202 = .ok (.if_icmp .eq 25, 3) := by decide +kernel
theorem zd314_205 : decode zxm314.2.1 205 = .ok (.aload_n 0, 1) := by decide +kernel
theorem zd314_206 : decode zxm314.2.1 206 = .ok (.aload_n 0, 1) := by decide +kernel
theorem zd314_207 : decode zxm314.2.1 207 = .ok (.getfield 131, 3) := by decide +kernel
theorem zd314_210 : decode zxm314.2.1 210 = .ok (.iload 4, 2) := by decide +kernel
theorem zd314_212 : decode zxm314.2.1 212 = .ok (.iaload, 1) := by decide +kernel
theorem zd314_213 : decode zxm314.2.1 213 = .ok (.invokevirtual 165, 3) := by decide +kernel
theorem zd314_216 : decode zxm314.2.1 216 = .ok (.ifCond .eq 11, 3) := by decide +kernel
theorem zd314_219 : decode zxm314.2.1 219 = .ok (.aload_n 0, 1) := by decide +kernel
theorem zd314_220 : decode zxm314.2.1 220 = .ok (.getfield 131, 3) := by decide +kernel
theorem zd314_223 : decode zxm314.2.1 223 = .ok (.iload 4, 2) := by decide +kernel
theorem zd314_225 : decode zxm314.2.1 225 = .ok (.iconst (-1), 1) := by decide +kernel
theorem zd314_226 : decode zxm314.2.1 226 = .ok (.iastore, 1) := by decide +kernel
theorem zd314_227 : decode zxm314.2.1 227 = .ok (.iinc 4 1, 3) := by decide +kernel
theorem zd314_230 : decode zxm314.2.1 230 = .ok (.goto (-128), 3) := by decide +kernel
theorem zd314_233 : decode zxm314.2.1 233 = .ok (.aload_n 0, 1) := by decide +kernel
theorem zd314_234 : decode zxm314.2.1 234 = .ok (.invokevirtual 427, 3) := by decide +kernel
theorem zd314_237 : decode zxm314.2.1 237 = .ok (.iinc 3 1, 3) := by decide +kernel
theorem zd314_240 : decode zxm314.2.1 240 = .ok (.goto (-146), 3) := by decide +kernel
theorem zd314_243 : decode zxm314.2.1 243 = .ok (.aload_n 0, 1) := by decide +kernel
theorem zd314_244 : decode zxm314.2.1 244 = .ok (.invokevirtual 437, 3) := by decide +kernel
theorem zd314_247 : decode zxm314.2.1 247 = .ok (.iconst 0, 1) := by decide +kernel
theorem zd314_248 : decode zxm314.2.1 248 = .ok (.istore_n 3, 1) := by decide +kernel
theorem zd314_249 : decode zxm314.2.1 249 = .ok (.bipush (-2), 2) := by decide +kernel
theorem zd314_251 : decode zxm314.2.1 251 = .ok (.istore 4, 2) := by decide +kernel
theorem zd314_253 : decode zxm314.2.1 253 = .ok (.iconst 0, 1) := by decide +kernel
theorem zd314_254 : decode zxm314.2.1 254 = .ok (.istore 5, 2) := by decide +kernel
theorem zd314_256 : decode zxm314.2.1 256 = .ok (.iload 5, 2) := by decide +kernel
theorem zd314_258 : decode zxm314.2.1 258 = .ok (.sipush 288, 3) := by decide +kernel
theorem zd314_261 : decode zxm314.2.1 261 = .ok (.if_icmp .ge 40, 3) := by decide +kernel
theorem zd314_264 : decode zxm314.2.1 264 = .ok (.aload_n 0, 1) := by decide +kernel
theorem zd314_265 : decode zxm314.2.1 265 = .ok (.getfield 131, 3) := by decide +kernel
theorem zd314_268 : decode zxm314.2.1 268 = .ok (.iload 5, 2) := by decide +kernel
theorem zd314_270 : decode zxm314.2.1 270 = .ok (.iaload, 1) := by decide +kernel
theorem zd314_271 : decode zxm314.2.1 271 = .ok (.iconst (-1), 1) := by decide +kernel
theorem zd314_272 : decode zxm314.2.1 272 = .ok (.if_icmp .ne 6, 3) := by decide +kernel
theorem zd314_275 : decode zxm314.2.1 275 = .ok (.goto 20, 3) := by decide +kernel
theorem zd314_278 : decode zxm314.2.1 278 = .ok (.iload_n 3, 1) := by decide +kernel
theorem zd314_279 : decode zxm314.2.1 279 = .ok (.ifCond .ne 8, 3) := by decide +kernel
theorem zd314_282 : decode zxm314.2.1 282 = .ok (.iload 5, 2) := by decide +kernel
theorem zd314_284 : decode zxm314.2.1 284 = .ok (.goto 5, 3) := by decide +kernel
theorem zd314_287 : decode zxm314.2.1 287 = .ok (.iload 4, 2) := by decide +kernel
theorem zd314_289 : decode zxm314.2.1 289 = .ok (.istore 4, 2) := by decide +kernel
theorem zd314_291 : decode zxm314.2.1 291 = .ok (.iload_n 3, 1) := by decide +kernel
theorem zd314_292 : decode zxm314.2.1 292 = .ok (.iconst 1, 1) := by decide +kernel
theorem zd314_293 : decode zxm314.2.1 293 = .ok (.iadd, 1) := by decide +kernel
theorem zd314_294 : decode zxm314.2.1 294 = .ok (.istore_n 3, 1) := by decide +kernel
theorem zd314_295 : decode zxm314.2.1 295 = .ok (.iinc 5 1, 3) := by decide +kernel
theorem zd314_298 : decode zxm314.2.1 298 = .ok (.goto (-42), 3) := by decide +kernel
theorem zd314_301 : decode zxm314.2.1 301 = .ok (.iload_n 2, 1) := by decide +kernel
theorem zd314_302 : decode zxm314.2.1 302 = .ok (.ifCond .ne 7, 3) := by decide +kernel
theorem zd314_305 : decode zxm314.2.1 305 = .ok (.iload_n 3, 1) := by decide +kernel
theorem zd314_306 : decode zxm314.2.1 306 = .ok (.goto 5, 3) := by decide +kernel
theorem zd314_309 : decode zxm314.2.1 309 = .ok (.iload 4, 2) := by decide +kernel
theorem zd314_311 : decode zxm314.2.1 311 = .ok (.ireturn, 1) := by decide +kernel
theorem zt_M_log {x1 : Int} {x2 : Int} {f0 : Int} {f1 : Int} {f2 : Int} {f3 : Int} {f4 : Int} {f5 : Int} {g0 : (Int → Int)} {g1 : (Int → Int)} {g2 : (Int → Int)} {g3 : (Int → Int)} {g4 : (Int → Int)} {g5 : (Int → Int)} {g6 : (Int → Int)} {g7 : (Int → Int)} {g8 : (Int → Int)} {g9 : (Int → Int)} {g10 : (Int → Int)} {g11 : (Int → Int)} {g12 : (Int → Int)} {g13 : (Int → Int)} {g14 : (Int → Int)} {g15 : (Int → Int)} {g16 : (Int → Int)} {g17 : (Int → Int)} {o : Int × Int × Int × Int × (Int → Int) × (Int → Int) × (Int → Int) × (Int → Int) × (Int → Int) × (Int → Int) × (Int → Int) × (Int → Int) × (Int → Int) × (Int → Int) × (Int → Int)} (h : zf_M_log x1 x2 f0 f1 f2 f3 f4 f5 g0 g1 g2 g3 g4 g5 g6 g7 g8 g9 g10 g11 g12 g13 g14 g15 g16 g17 = some o) : zv_Fn z_TB z_cl z_KX zy_M_log zxm314 (7, 420) [.inr 0, .inl x1, .inl x2] [.inl f0, .inl f1, .inl f2, .inl f3, .inl f4, .inl f5] [g0, g1, g2, g3, g4, g5, g6, g7, g8, g9, g10, g11, g12, g13, g14, g15, g16, g17] (some o.1) [.inl f0, .inl o.2.1, .inl f2, .inl o.2.2.1, .inl o.2.2.2.1, .inl f5] [o.2.2.2.2.1, g1, o.2.2.2.2.2.1, o.2.2.2.2.2.2.1, o.2.2.2.2.2.2.2.1, o.2.2.2.2.2.2.2.2.1, g6, o.2.2.2.2.2.2.2.2.2.1, g8, g9, g10, o.2.2.2.2.2.2.2.2.2.2.1, o.2.2.2.2.2.2.2.2.2.2.2.1, o.2.2.2.2.2.2.2.2.2.2.2.2.1, o.2.2.2.2.2.2.2.2.2.2.2.2.2.1, g15, g16, o.2.2.2.2.2.2.2.2.2.2.2.2.2.2] := zv_meth (K := (z_KF13, z_KC13, z_KL13, z_KT13, [], [], [], none)) (FT := z_FT) (MT := z_MT) (n := 3) zxp314 (z_ks13 _ (fun _ h => List.mem_cons_of_mem _ h) _ _ _ _ (fun j r h _ => by cases h)) (fun _ _ => zs_KX_p) zyw_M_log (fun va F G h => by obtain ⟨rfl, _⟩ := h; rfl) (fun va F G h => by obtain ⟨rfl, _⟩ := h; rfl) rfl fun good va F G hB hret hvret hP => by
  obtain ⟨rfl, rfl, rfl⟩ := hP
  have l0 : ∀ (n : Nat) (x1 : Int) (x2 : Int) (x3 : Int) (f1 : Int) (f3 : Int) (f4 : Int) (g0 : (Int → Int)) (g2 : (Int → Int)) (g3 : (Int → Int)) (g4 : (Int → Int)) (g5 : (Int → Int)) (g7 : (Int → Int)) (g11 : (Int → Int)) (g12 : (Int → Int)) (g13 : (Int → Int)) (g14 : (Int → Int)) (g17 : (Int → Int)) (q : (Int → Int)), zf_M_log_l0 g4 n x3 g3 = some q → (good 88 [.inr 0, .inl x1, .inl x2, .inr 1000, .inr 1000, .inr 1000] [] [.inl f0, .inl f1, .inl f2, .inl f3, .inl f4, .inl f5] [g0, g1, g2, q, g4, g5, g6, g7, g8, g9, g10, g11, g12, g13, g14, g15, g16, g17]) → good 56 [.inr 0, .inl x1, .inl x2, .inl x3, .inr 1000, .inr 1000] [] [.inl f0, .inl f1, .inl f2, .inl f3, .inl f4, .inl f5] [g0, g1, g2, g3, g4, g5, g6, g7, g8, g9, g10, g11, g12, g13, g14, g15, g16, g17] := by
    intro n
    induction n with
    | zero => intro x1 x2 x3 f1 f3 f4 g0 g2 g3 g4 g5 g7 g11 g12 g13 g14 g17 q h; exact absurd (show none = some q from h) (fun h => by cases h)
    | succ n ih =>
      intro x1 x2 x3 f1 f3 f4 g0 g2 g3 g4 g5 g7 g11 g12 g13 g14 g17 q h hK
      replace h : zf_M_log_l0_b g4 (zf_M_log_l0 g4 n) x3 g3 = some q := h
      unfold zf_M_log_l0_b at h
      refine zv_ild hB zd314_56 rfl rfl ?_
      refine zv_con hB zd314_57 rfl ?_
      refine zv_cge hB zd314_60 rfl (fun hc9 => ?_) (fun hc9 => ?_)
      · rw [if_neg (Int.not_lt.mpr hc9)] at h
        have hq := Option.some.inj h
        subst hq
        refine zv_wk hB (L' := [.inr 0, .inl x1, .inl x2, .inr 1000, .inr 1000, .inr 1000]) (F' := [.inl f0, .inl f1, .inl f2, .inl f3, .inl f4, .inl f5]) ⟨fun _ => rfl, fun _ => rfl, fun _ => rfl, fun (h : zv_is (.inr 1000)) => (Nat.lt_irrefl 1000 h).elim, fun (h : zv_is (.inr 1000)) => (Nat.lt_irrefl 1000 h).elim, fun (h : zv_is (.inr 1000)) => (Nat.lt_irrefl 1000 h).elim, trivial⟩ ⟨fun _ => rfl, fun _ => rfl, fun _ => rfl, fun _ => rfl, fun _ => rfl, fun _ => rfl, trivial⟩ ?_
        exact hK
      · rw [if_pos hc9] at h
        refine zv_ald hB zd314_63 rfl rfl rfl ?_
        refine zv_getr hB zd314_64 rfl ?_
        refine zv_ild hB zd314_67 rfl rfl ?_
        refine zv_ald hB zd314_68 rfl rfl rfl ?_
        refine zv_ild hB zd314_69 rfl rfl ?_
        obtain ⟨r10, hr10, h⟩ := zi_bind h
        refine zv_cv hB (zv_emq (va2 := [.inr 0, .inl x3]) (F := [.inl f0, .inl f1, .inl f2, .inl f3, .inl f4, .inl f5]) (F' := [.inl f0, .inl f1, .inl f2, .inl f3, .inl f4, .inl f5]) (G := [g0, g1, g2, g3, g4, g5, g6, g7, g8, g9, g10, g11, g12, g13, g14, g15, g16, g17]) (G' := [g0, g1, g2, g3, g4, g5, g6, g7, g8, g9, g10, g11, g12, g13, g14, g15, g16, g17]) (ρ := [0, 5]) (φ := []) (ψ := [4]) [none, none, none, none, none, none] [none, none, none, none, some 0, none, none, none, none, none, none, none, none, none, none, none, none, none] zyw_M_isLand zyw_M_log zye_M_log (by decide +kernel) (zt_M_isLand hr10) trivial ⟨rfl, trivial⟩ rfl rfl rfl rfl rfl rfl rfl) zd314_70 zxt212 rfl (by decide) (by decide) rfl ?_
        refine zv_zeq hB zd314_73 rfl (fun hc11 => ?_) (fun hc11 => ?_)
        · rw [if_pos hc11] at h
          refine zv_ild hB zd314_80 rfl rfl ?_
          obtain ⟨c12, h⟩ := zi_if h
          refine zv_iast hB zd314_81 rfl rfl (zi_ix_ok c12).1 (zi_ix_ok c12).2 ?_
          refine zv_iincw hB zd314_82 rfl rfl ?_
          refine zv_goto hB zd314_85 rfl ?_
          exact ih _ _ _ _ _ _ _ _ _ _ _ _ _ _ _ _ _ q h hK
        · rw [if_neg hc11] at h
          refine zv_con hB zd314_76 rfl ?_
          refine zv_goto hB zd314_77 rfl ?_
          obtain ⟨c13, h⟩ := zi_if h
          refine zv_iast hB zd314_81 rfl rfl (zi_ix_ok c13).1 (zi_ix_ok c13).2 ?_
          refine zv_iincw hB zd314_82 rfl rfl ?_
          refine zv_goto hB zd314_85 rfl ?_
          exact ih _ _ _ _ _ _ _ _ _ _ _ _ _ _ _ _ _ q h hK
  have l2 : ∀ (n : Nat) (x1 : Int) (x2 : Int) (x3 : Int) (x4 : Int) (f1 : Int) (f3 : Int) (f4 : Int) (g0 : (Int → Int)) (g2 : (Int → Int)) (g3 : (Int → Int)) (g4 : (Int → Int)) (g5 : (Int → Int)) (g7 : (Int → Int)) (g11 : (Int → Int)) (g12 : (Int → Int)) (g13 : (Int → Int)) (g14 : (Int → Int)) (g17 : (Int → Int)) (q : Int × Int × (Int → Int) × (Int → Int) × (Int → Int) × (Int → Int) × (Int → Int) × (Int → Int) × (Int → Int)), zf_M_log_l2 x1 x3 f0 f2 f5 g0 g2 g4 g6 g8 g9 g10 g15 g16 n x4 f3 f4 g3 g7 g11 g12 g13 g14 g17 = some q → (good 233 [.inr 0, .inl x1, .inl x2, .inl x3, .inr 1000, .inr 1000] [] [.inl f0, .inl f1, .inl f2, .inl q.1, .inl q.2.1, .inl f5] [g0, g1, g2, q.2.2.1, g4, g5, g6, q.2.2.2.1, g8, g9, g10, q.2.2.2.2.1, q.2.2.2.2.2.1, q.2.2.2.2.2.2.1, q.2.2.2.2.2.2.2.1, g15, g16, q.2.2.2.2.2.2.2.2]) → good 102 [.inr 0, .inl x1, .inl x2, .inl x3, .inl x4, .inr 1000] [] [.inl f0, .inl f1, .inl f2, .inl f3, .inl f4, .inl f5] [g0, g1, g2, g3, g4, g5, g6, g7, g8, g9, g10, g11, g12, g13, g14, g15, g16, g17] := by
    intro n
    induction n with
    | zero => intro x1 x2 x3 x4 f1 f3 f4 g0 g2 g3 g4 g5 g7 g11 g12 g13 g14 g17 q h; exact absurd (show none = some q from h) (fun h => by cases h)
    | succ n ih =>
      intro x1 x2 x3 x4 f1 f3 f4 g0 g2 g3 g4 g5 g7 g11 g12 g13 g14 g17 q h hK
      replace h : zf_M_log_l2_b x1 x3 f0 f2 f5 g0 g2 g4 g6 g8 g9 g10 g15 g16 (zf_M_log_l2 x1 x3 f0 f2 f5 g0 g2 g4 g6 g8 g9 g10 g15 g16 n) x4 f3 f4 g3 g7 g11 g12 g13 g14 g17 = some q := h
      unfold zf_M_log_l2_b at h
      refine zv_ild hB zd314_102 rfl rfl ?_
      refine zv_con hB zd314_104 rfl ?_
      refine zv_cge hB zd314_107 rfl (fun hc17 => ?_) (fun hc17 => ?_)
      · rw [if_neg (Int.not_lt.mpr hc17)] at h
        have hq := Option.some.inj h
        subst hq
        refine zv_wk hB (L' := [.inr 0, .inl x1, .inl x2, .inl x3, .inr 1000, .inr 1000]) (F' := [.inl f0, .inl f1, .inl f2, .inl f3, .inl f4, .inl f5]) ⟨fun _ => rfl, fun _ => rfl, fun _ => rfl, fun _ => rfl, fun (h : zv_is (.inr 1000)) => (Nat.lt_irrefl 1000 h).elim, fun (h : zv_is (.inr 1000)) => (Nat.lt_irrefl 1000 h).elim, trivial⟩ ⟨fun _ => rfl, fun _ => rfl, fun _ => rfl, fun _ => rfl, fun _ => rfl, fun _ => rfl, trivial⟩ ?_
        exact hK
      · rw [if_pos hc17] at h
        refine zv_ald hB zd314_110 rfl rfl rfl ?_
        refine zv_getr hB zd314_111 rfl ?_
        refine zv_ild hB zd314_114 rfl rfl ?_
        obtain ⟨c18, h⟩ := zi_if h
        refine zv_iald hB zd314_116 rfl rfl (zi_ix_ok c18).1 (zi_ix_ok c18).2 (fun _ _ => ?_)
        refine zv_con hB zd314_117 rfl ?_
        refine zv_cne hB zd314_118 rfl (fun hc19 => ?_) (fun hc19 => ?_)
        · rw [if_neg hc19] at h
          refine zv_ald hB zd314_124 rfl rfl rfl ?_
          refine zv_ald hB zd314_125 rfl rfl rfl ?_
          refine zv_getr hB zd314_126 rfl ?_
          refine zv_ild hB zd314_129 rfl rfl ?_
          refine zv_iald hB zd314_131 rfl rfl (zi_ix_ok c18).1 (zi_ix_ok c18).2 (fun _ _ => ?_)
          obtain ⟨r20, hr20, h⟩ := zi_bind h
          refine zv_cv hB (zv_emq (va2 := [.inr 0, .inl (g3 x4)]) (F := [.inl f0, .inl f1, .inl f2, .inl f3, .inl f4, .inl f5]) (F' := [.inl f0, .inl f1, .inl f2, .inl r20.2.1, .inl r20.2.2.1, .inl f5]) (G := [g0, g1, g2, g3, g4, g5, g6, g7, g8, g9, g10, g11, g12, g13, g14, g15, g16, g17]) (G' := [g0, g1, g2, g3, g4, g5, g6, r20.2.2.2.1, g8, g9, g10, r20.2.2.2.2.1, r20.2.2.2.2.2.1, r20.2.2.2.2.2.2.1, r20.2.2.2.2.2.2.2.1, g15, g16, r20.2.2.2.2.2.2.2.2]) (ρ := [0, 5, 7, 8, 9, 10, 11, 12, 13, 14, 15, 16, 17, 18]) (φ := [2, 3, 4, 5, 0]) (ψ := [4, 6, 7, 8, 9, 10, 11, 12, 13, 14, 15, 16, 17]) [some 4, none, some 0, some 1, some 2, some 3] [none, none, none, none, some 0, none, some 1, some 2, some 3, some 4, some 5, some 6, some 7, some 8, some 9, some 10, some 11, some 12] zyw_M_canBeTold zyw_M_log zye_M_log (by decide +kernel) (zt_M_canBeTold hr20) ⟨⟨_, rfl, fun _ => rfl⟩, ⟨_, rfl, fun _ => rfl⟩, ⟨_, rfl, fun _ => rfl⟩, ⟨_, rfl, fun _ => rfl⟩, ⟨_, rfl, fun _ => rfl⟩, trivial⟩ ⟨rfl, rfl, rfl, rfl, rfl, rfl, rfl, rfl, rfl, rfl, rfl, rfl, rfl, trivial⟩ rfl rfl rfl rfl rfl rfl rfl) zd314_132 zxt272 rfl (by decide) (by decide) rfl ?_
          refine zv_ald hB zd314_135 rfl rfl rfl ?_
          refine zv_getr hB zd314_136 rfl ?_
          refine zv_ild hB zd314_139 rfl rfl ?_
          obtain ⟨c21, h⟩ := zi_if h
          refine zv_iald hB zd314_140 rfl rfl (zi_ix_ok c21).1 (zi_ix_ok c21).2 (fun _ _ => ?_)
          refine zv_con hB zd314_141 rfl ?_
          refine zv_cne hB zd314_142 rfl (fun hc22 => ?_) (fun hc22 => ?_)
          · rw [if_neg hc22] at h
            refine zv_con hB zd314_149 rfl ?_
            refine zv_ceq hB zd314_150 rfl (fun hc23 => ?_) (fun hc23 => ?_)
            · rw [if_pos hc23] at h
              refine zv_ild hB zd314_164 rfl rfl ?_
              refine zv_con hB zd314_165 rfl ?_
              refine zv_addw hB zd314_166 ?_
              refine zv_ild hB zd314_167 rfl rfl ?_
              refine zv_cge hB zd314_168 rfl (fun hc24 => ?_) (fun hc24 => ?_)
              · rw [if_neg (Int.not_lt.mpr hc24)] at h
                refine zv_ald hB zd314_194 rfl rfl rfl ?_
                refine zv_getr hB zd314_195 rfl ?_
                refine zv_ild hB zd314_198 rfl rfl ?_
                refine zv_iald hB zd314_200 rfl rfl (zi_ix_ok c18).1 (zi_ix_ok c18).2 (fun _ _ => ?_)
                refine zv_con hB zd314_201 rfl ?_
                refine zv_ceq hB zd314_202 rfl (fun hc => absurd hc (by omega)) (fun _ => ?_)
                refine zv_ald hB zd314_205 rfl rfl rfl ?_
                refine zv_ald hB zd314_206 rfl rfl rfl ?_
                refine zv_getr hB zd314_207 rfl ?_
                refine zv_ild hB zd314_210 rfl rfl ?_
                refine zv_iald hB zd314_212 rfl rfl (zi_ix_ok c18).1 (zi_ix_ok c18).2 (fun _ _ => ?_)
                obtain ⟨r26, hr26, h⟩ := zi_bind h
                refine zv_cv hB (zv_emq (va2 := [.inr 0, .inl (g3 x4)]) (F := [.inl f0, .inl f1, .inl f2, .inl r20.2.1, .inl r20.2.2.1, .inl f5]) (F' := [.inl f0, .inl f1, .inl f2, .inl r20.2.1, .inl r20.2.2.1, .inl f5]) (G := [g0, g1, g2, g3, g4, g5, g6, r20.2.2.2.1, g8, g9, g10, r20.2.2.2.2.1, r20.2.2.2.2.2.1, r20.2.2.2.2.2.2.1, r20.2.2.2.2.2.2.2.1, g15, g16, r20.2.2.2.2.2.2.2.2]) (G' := [g0, g1, g2, g3, g4, g5, g6, r20.2.2.2.1, g8, g9, g10, r20.2.2.2.2.1, r20.2.2.2.2.2.1, r20.2.2.2.2.2.2.1, r20.2.2.2.2.2.2.2.1, g15, g16, r20.2.2.2.2.2.2.2.2]) (ρ := [0, 5]) (φ := []) (ψ := [4]) [none, none, none, none, none, none] [none, none, none, none, some 0, none, none, none, none, none, none, none, none, none, none, none, none, none] zyw_M_isLand zyw_M_log zye_M_log (by decide +kernel) (zt_M_isLand hr26) trivial ⟨rfl, trivial⟩ rfl rfl rfl rfl rfl rfl rfl) zd314_213 zxt212 rfl (by decide) (by decide) rfl ?_
                refine zv_zeq hB zd314_216 rfl (fun hc27 => ?_) (fun hc27 => ?_)
                · rw [if_pos hc27] at h
                  refine zv_iincw hB zd314_227 rfl rfl ?_
                  refine zv_goto hB zd314_230 rfl ?_
                  exact ih _ _ _ _ _ _ _ _ _ _ _ _ _ _ _ _ _ _ q h hK
                · rw [if_neg hc27] at h
                  refine zv_ald hB zd314_219 rfl rfl rfl ?_
                  refine zv_getr hB zd314_220 rfl ?_
                  refine zv_ild hB zd314_223 rfl rfl ?_
                  refine zv_con hB zd314_225 rfl ?_
                  refine zv_iast hB zd314_226 rfl rfl (zi_ix_ok c18).1 (zi_ix_ok c18).2 ?_
                  refine zv_iincw hB zd314_227 rfl rfl ?_
                  refine zv_goto hB zd314_230 rfl ?_
                  exact ih _ _ _ _ _ _ _ _ _ _ _ _ _ _ _ _ _ _ q h hK
              · rw [if_pos hc24] at h
                refine zv_ald hB zd314_171 rfl rfl rfl ?_
                refine zv_getr hB zd314_172 rfl ?_
                refine zv_ild hB zd314_175 rfl rfl ?_
                refine zv_ald hB zd314_177 rfl rfl rfl ?_
                refine zv_getr hB zd314_178 rfl ?_
                refine zv_ild hB zd314_181 rfl rfl ?_
                refine zv_iald hB zd314_183 rfl rfl (zi_ix_ok c18).1 (zi_ix_ok c18).2 (fun _ _ => ?_)
                refine zv_ald hB zd314_184 rfl rfl rfl ?_
                refine zv_getr hB zd314_185 rfl ?_
                refine zv_ild hB zd314_188 rfl rfl ?_
                refine zv_iald hB zd314_189 rfl rfl (zi_ix_ok c21).1 (zi_ix_ok c21).2 (fun _ _ => ?_)
                obtain ⟨r28, hr28, h⟩ := zi_bind h
                refine zv_cs hB (zv_emq (va2 := [.inl (g3 x4), .inl (g2 x3)]) (F := [.inl f0, .inl f1, .inl f2, .inl r20.2.1, .inl r20.2.2.1, .inl f5]) (F' := [.inl f0, .inl f1, .inl f2, .inl r20.2.1, .inl r20.2.2.1, .inl f5]) (G := [g0, g1, g2, g3, g4, g5, g6, r20.2.2.2.1, g8, g9, g10, r20.2.2.2.2.1, r20.2.2.2.2.2.1, r20.2.2.2.2.2.2.1, r20.2.2.2.2.2.2.2.1, g15, g16, r20.2.2.2.2.2.2.2.2]) (G' := [g0, g1, g2, g3, g4, g5, g6, r20.2.2.2.1, g8, g9, g10, r20.2.2.2.2.1, r20.2.2.2.2.2.1, r20.2.2.2.2.2.2.1, r20.2.2.2.2.2.2.2.1, g15, g16, r20.2.2.2.2.2.2.2.2]) (ρ := []) (φ := []) (ψ := []) [none, none, none, none, none, none] [none, none, none, none, none, none, none, none, none, none, none, none, none, none, none, none, none, none] zyw_M_goesTo zyw_M_log zye_M_log (by decide +kernel) (zt_M_goesTo hr28) trivial trivial rfl rfl rfl rfl rfl rfl rfl) zd314_190 zxt304 rfl (by decide) (by decide) rfl ?_
                refine zv_iast hB zd314_193 rfl rfl (zi_ix_ok c18).1 (zi_ix_ok c18).2 ?_
                refine zv_ald hB zd314_194 rfl rfl rfl ?_
                refine zv_getr hB zd314_195 rfl ?_
                refine zv_ild hB zd314_198 rfl rfl ?_
                refine zv_iald hB zd314_200 rfl rfl (zi_ix_ok c18).1 (zi_ix_ok c18).2 (fun _ _ => ?_)
                refine zv_con hB zd314_201 rfl ?_
                refine zv_ceq hB zd314_202 rfl (fun hc29 => ?_) (fun hc29 => ?_)
                · rw [if_pos hc29] at h
                  refine zv_iincw hB zd314_227 rfl rfl ?_
                  refine zv_goto hB zd314_230 rfl ?_
                  exact ih _ _ _ _ _ _ _ _ _ _ _ _ _ _ _ _ _ _ q h hK
                · rw [if_neg hc29] at h
                  refine zv_ald hB zd314_205 rfl rfl rfl ?_
                  refine zv_ald hB zd314_206 rfl rfl rfl ?_
                  refine zv_getr hB zd314_207 rfl ?_
                  refine zv_ild hB zd314_210 rfl rfl ?_
                  refine zv_iald hB zd314_212 rfl rfl (zi_ix_ok c18).1 (zi_ix_ok c18).2 (fun _ _ => ?_)
                  obtain ⟨r30, hr30, h⟩ := zi_bind h
                  refine zv_cv hB (zv_emq (va2 := [.inr 0, .inl ((zv_up g3 x4 r28) x4)]) (F := [.inl f0, .inl f1, .inl f2, .inl r20.2.1, .inl r20.2.2.1, .inl f5]) (F' := [.inl f0, .inl f1, .inl f2, .inl r20.2.1, .inl r20.2.2.1, .inl f5]) (G := [g0, g1, g2, (zv_up g3 x4 r28), g4, g5, g6, r20.2.2.2.1, g8, g9, g10, r20.2.2.2.2.1, r20.2.2.2.2.2.1, r20.2.2.2.2.2.2.1, r20.2.2.2.2.2.2.2.1, g15, g16, r20.2.2.2.2.2.2.2.2]) (G' := [g0, g1, g2, (zv_up g3 x4 r28), g4, g5, g6, r20.2.2.2.1, g8, g9, g10, r20.2.2.2.2.1, r20.2.2.2.2.2.1, r20.2.2.2.2.2.2.1, r20.2.2.2.2.2.2.2.1, g15, g16, r20.2.2.2.2.2.2.2.2]) (ρ := [0, 5]) (φ := []) (ψ := [4]) [none, none, none, none, none, none] [none, none, none, none, some 0, none, none, none, none, none, none, none, none, none, none, none, none, none] zyw_M_isLand zyw_M_log zye_M_log (by decide +kernel) (zt_M_isLand hr30) trivial ⟨rfl, trivial⟩ rfl rfl rfl rfl rfl rfl rfl) zd314_213 zxt212 rfl (by decide) (by decide) rfl ?_
                  refine zv_zeq hB zd314_216 rfl (fun hc31 => ?_) (fun hc31 => ?_)
                  · rw [if_pos hc31] at h
                    refine zv_iincw hB zd314_227 rfl rfl ?_
                    refine zv_goto hB zd314_230 rfl ?_
                    exact ih _ _ _ _ _ _ _ _ _ _ _ _ _ _ _ _ _ _ q h hK
                  · rw [if_neg hc31] at h
                    refine zv_ald hB zd314_219 rfl rfl rfl ?_
                    refine zv_getr hB zd314_220 rfl ?_
                    refine zv_ild hB zd314_223 rfl rfl ?_
                    refine zv_con hB zd314_225 rfl ?_
                    refine zv_iast hB zd314_226 rfl rfl (zi_ix_ok c18).1 (zi_ix_ok c18).2 ?_
                    refine zv_iincw hB zd314_227 rfl rfl ?_
                    refine zv_goto hB zd314_230 rfl ?_
                    exact ih _ _ _ _ _ _ _ _ _ _ _ _ _ _ _ _ _ _ q h hK
            · rw [if_neg hc23] at h
              refine zv_ald hB zd314_153 rfl rfl rfl ?_
              refine zv_getr hB zd314_154 rfl ?_
              refine zv_ild hB zd314_157 rfl rfl ?_
              refine zv_con hB zd314_159 rfl ?_
              refine zv_iast hB zd314_160 rfl rfl (zi_ix_ok c18).1 (zi_ix_ok c18).2 ?_
              refine zv_goto hB zd314_161 rfl ?_
              refine zv_ald hB zd314_194 rfl rfl rfl ?_
              refine zv_getr hB zd314_195 rfl ?_
              refine zv_ild hB zd314_198 rfl rfl ?_
              refine zv_iald hB zd314_200 rfl rfl (zi_ix_ok c18).1 (zi_ix_ok c18).2 (fun _ _ => ?_)
              refine zv_con hB zd314_201 rfl ?_
              refine zv_ceq hB zd314_202 rfl (fun hc32 => ?_) (fun hc32 => ?_)
              · rw [if_pos hc32] at h
                refine zv_iincw hB zd314_227 rfl rfl ?_
                refine zv_goto hB zd314_230 rfl ?_
                exact ih _ _ _ _ _ _ _ _ _ _ _ _ _ _ _ _ _ _ q h hK
              · rw [if_neg hc32] at h
                refine zv_ald hB zd314_205 rfl rfl rfl ?_
                refine zv_ald hB zd314_206 rfl rfl rfl ?_
                refine zv_getr hB zd314_207 rfl ?_
                refine zv_ild hB zd314_210 rfl rfl ?_
                refine zv_iald hB zd314_212 rfl rfl (zi_ix_ok c18).1 (zi_ix_ok c18).2 (fun _ _ => ?_)
                obtain ⟨r33, hr33, h⟩ := zi_bind h
                refine zv_cv hB (zv_emq (va2 := [.inr 0, .inl ((zv_up g3 x4 (-1)) x4)]) (F := [.inl f0, .inl f1, .inl f2, .inl r20.2.1, .inl r20.2.2.1, .inl f5]) (F' := [.inl f0, .inl f1, .inl f2, .inl r20.2.1, .inl r20.2.2.1, .inl f5]) (G := [g0, g1, g2, (zv_up g3 x4 (-1)), g4, g5, g6, r20.2.2.2.1, g8, g9, g10, r20.2.2.2.2.1, r20.2.2.2.2.2.1, r20.2.2.2.2.2.2.1, r20.2.2.2.2.2.2.2.1, g15, g16, r20.2.2.2.2.2.2.2.2]) (G' := [g0, g1, g2, (zv_up g3 x4 (-1)), g4, g5, g6, r20.2.2.2.1, g8, g9, g10, r20.2.2.2.2.1, r20.2.2.2.2.2.1, r20.2.2.2.2.2.2.1, r20.2.2.2.2.2.2.2.1, g15, g16, r20.2.2.2.2.2.2.2.2]) (ρ := [0, 5]) (φ := []) (ψ := [4]) [none, none, none, none, none, none] [none, none, none, none, some 0, none, none, none, none, none, none, none, none, none, none, none, none, none] zyw_M_isLand zyw_M_log zye_M_log (by decide +kernel) (zt_M_isLand hr33) trivial ⟨rfl, trivial⟩ rfl rfl rfl rfl rfl rfl rfl) zd314_213 zxt212 rfl (by decide) (by decide) rfl ?_
                refine zv_zeq hB zd314_216 rfl (fun hc34 => ?_) (fun hc34 => ?_)
                · rw [if_pos hc34] at h
                  refine zv_iincw hB zd314_227 rfl rfl ?_
                  refine zv_goto hB zd314_230 rfl ?_
                  exact ih _ _ _ _ _ _ _ _ _ _ _ _ _ _ _ _ _ _ q h hK
                · rw [if_neg hc34] at h
                  refine zv_ald hB zd314_219 rfl rfl rfl ?_
                  refine zv_getr hB zd314_220 rfl ?_
                  refine zv_ild hB zd314_223 rfl rfl ?_
                  refine zv_con hB zd314_225 rfl ?_
                  refine zv_iast hB zd314_226 rfl rfl (zi_ix_ok c18).1 (zi_ix_ok c18).2 ?_
                  refine zv_iincw hB zd314_227 rfl rfl ?_
                  refine zv_goto hB zd314_230 rfl ?_
                  exact ih _ _ _ _ _ _ _ _ _ _ _ _ _ _ _ _ _ _ q h hK
          · rw [if_pos hc22] at h
            refine zv_con hB zd314_145 rfl ?_
            refine zv_goto hB zd314_146 rfl ?_
            refine zv_ceq hB zd314_150 rfl (fun hc35 => ?_) (fun hc35 => ?_)
            · rw [if_pos hc35] at h
              refine zv_ild hB zd314_164 rfl rfl ?_
              refine zv_con hB zd314_165 rfl ?_
              refine zv_addw hB zd314_166 ?_
              refine zv_ild hB zd314_167 rfl rfl ?_
              refine zv_cge hB zd314_168 rfl (fun hc36 => ?_) (fun hc36 => ?_)
              · rw [if_neg (Int.not_lt.mpr hc36)] at h
                refine zv_ald hB zd314_194 rfl rfl rfl ?_
                refine zv_getr hB zd314_195 rfl ?_
                refine zv_ild hB zd314_198 rfl rfl ?_
                refine zv_iald hB zd314_200 rfl rfl (zi_ix_ok c18).1 (zi_ix_ok c18).2 (fun _ _ => ?_)
                refine zv_con hB zd314_201 rfl ?_
                refine zv_ceq hB zd314_202 rfl (fun hc => absurd hc (by omega)) (fun _ => ?_)
                refine zv_ald hB zd314_205 rfl rfl rfl ?_
                refine zv_ald hB zd314_206 rfl rfl rfl ?_
                refine zv_getr hB zd314_207 rfl ?_
                refine zv_ild hB zd314_210 rfl rfl ?_
                refine zv_iald hB zd314_212 rfl rfl (zi_ix_ok c18).1 (zi_ix_ok c18).2 (fun _ _ => ?_)
                obtain ⟨r38, hr38, h⟩ := zi_bind h
                refine zv_cv hB (zv_emq (va2 := [.inr 0, .inl (g3 x4)]) (F := [.inl f0, .inl f1, .inl f2, .inl r20.2.1, .inl r20.2.2.1, .inl f5]) (F' := [.inl f0, .inl f1, .inl f2, .inl r20.2.1, .inl r20.2.2.1, .inl f5]) (G := [g0, g1, g2, g3, g4, g5, g6, r20.2.2.2.1, g8, g9, g10, r20.2.2.2.2.1, r20.2.2.2.2.2.1, r20.2.2.2.2.2.2.1, r20.2.2.2.2.2.2.2.1, g15, g16, r20.2.2.2.2.2.2.2.2]) (G' := [g0, g1, g2, g3, g4, g5, g6, r20.2.2.2.1, g8, g9, g10, r20.2.2.2.2.1, r20.2.2.2.2.2.1, r20.2.2.2.2.2.2.1, r20.2.2.2.2.2.2.2.1, g15, g16, r20.2.2.2.2.2.2.2.2]) (ρ := [0, 5]) (φ := []) (ψ := [4]) [none, none, none, none, none, none] [none, none, none, none, some 0, none, none, none, none, none, none, none, none, none, none, none, none, none] zyw_M_isLand zyw_M_log zye_M_log (by decide +kernel) (zt_M_isLand hr38) trivial ⟨rfl, trivial⟩ rfl rfl rfl rfl rfl rfl rfl) zd314_213 zxt212 rfl (by decide) (by decide) rfl ?_
                refine zv_zeq hB zd314_216 rfl (fun hc39 => ?_) (fun hc39 => ?_)
                · rw [if_pos hc39] at h
                  refine zv_iincw hB zd314_227 rfl rfl ?_
                  refine zv_goto hB zd314_230 rfl ?_
                  exact ih _ _ _ _ _ _ _ _ _ _ _ _ _ _ _ _ _ _ q h hK
                · rw [if_neg hc39] at h
                  refine zv_ald hB zd314_219 rfl rfl rfl ?_
                  refine zv_getr hB zd314_220 rfl ?_
                  refine zv_ild hB zd314_223 rfl rfl ?_
                  refine zv_con hB zd314_225 rfl ?_
                  refine zv_iast hB zd314_226 rfl rfl (zi_ix_ok c18).1 (zi_ix_ok c18).2 ?_
                  refine zv_iincw hB zd314_227 rfl rfl ?_
                  refine zv_goto hB zd314_230 rfl ?_
                  exact ih _ _ _ _ _ _ _ _ _ _ _ _ _ _ _ _ _ _ q h hK
              · rw [if_pos hc36] at h
                refine zv_ald hB zd314_171 rfl rfl rfl ?_
                refine zv_getr hB zd314_172 rfl ?_
                refine zv_ild hB zd314_175 rfl rfl ?_
                refine zv_ald hB zd314_177 rfl rfl rfl ?_
                refine zv_getr hB zd314_178 rfl ?_
                refine zv_ild hB zd314_181 rfl rfl ?_
                refine zv_iald hB zd314_183 rfl rfl (zi_ix_ok c18).1 (zi_ix_ok c18).2 (fun _ _ => ?_)
                refine zv_ald hB zd314_184 rfl rfl rfl ?_
                refine zv_getr hB zd314_185 rfl ?_
                refine zv_ild hB zd314_188 rfl rfl ?_
                refine zv_iald hB zd314_189 rfl rfl (zi_ix_ok c21).1 (zi_ix_ok c21).2 (fun _ _ => ?_)
                obtain ⟨r40, hr40, h⟩ := zi_bind h
                refine zv_cs hB (zv_emq (va2 := [.inl (g3 x4), .inl (g2 x3)]) (F := [.inl f0, .inl f1, .inl f2, .inl r20.2.1, .inl r20.2.2.1, .inl f5]) (F' := [.inl f0, .inl f1, .inl f2, .inl r20.2.1, .inl r20.2.2.1, .inl f5]) (G := [g0, g1, g2, g3, g4, g5, g6, r20.2.2.2.1, g8, g9, g10, r20.2.2.2.2.1, r20.2.2.2.2.2.1, r20.2.2.2.2.2.2.1, r20.2.2.2.2.2.2.2.1, g15, g16, r20.2.2.2.2.2.2.2.2]) (G' := [g0, g1, g2, g3, g4, g5, g6, r20.2.2.2.1, g8, g9, g10, r20.2.2.2.2.1, r20.2.2.2.2.2.1, r20.2.2.2.2.2.2.1, r20.2.2.2.2.2.2.2.1, g15, g16, r20.2.2.2.2.2.2.2.2]) (ρ := []) (φ := []) (ψ := []) [none, none, none, none, none, none] [none, none, none, none, none, none, none, none, none, none, none, none, none, none, none, none, none, none] zyw_M_goesTo zyw_M_log zye_M_log (by decide +kernel) (zt_M_goesTo hr40) trivial trivial rfl rfl rfl rfl rfl rfl rfl) zd314_190 zxt304 rfl (by decide) (by decide) rfl ?_
                refine zv_iast hB zd314_193 rfl rfl (zi_ix_ok c18).1 (zi_ix_ok c18).2 ?_
                refine zv_ald hB zd314_194 rfl rfl rfl ?_
                refine zv_getr hB zd314_195 rfl ?_
                refine zv_ild hB zd314_198 rfl rfl ?_
                refine zv_iald hB zd314_200 rfl rfl (zi_ix_ok c18).1 (zi_ix_ok c18).2 (fun _ _ => ?_)
                refine zv_con hB zd314_201 rfl ?_
                refine zv_ceq hB zd314_202 rfl (fun hc41 => ?_) (fun hc41 => ?_)
                · rw [if_pos hc41] at h
                  refine zv_iincw hB zd314_227 rfl rfl ?_
                  refine zv_goto hB zd314_230 rfl ?_
                  exact ih _ _ _ _ _ _ _ _ _ _ _ _ _ _ _ _ _ _ q h hK
                · rw [if_neg hc41] at h
                  refine zv_ald hB zd314_205 rfl rfl rfl ?_
                  refine zv_ald hB zd314_206 rfl rfl rfl ?_
                  refine zv_getr hB zd314_207 rfl ?_
                  refine zv_ild hB zd314_210 rfl rfl ?_
                  refine zv_iald hB zd314_212 rfl rfl (zi_ix_ok c18).1 (zi_ix_ok c18).2 (fun _ _ => ?_)
                  obtain ⟨r42, hr42, h⟩ := zi_bind h
                  refine zv_cv hB (zv_emq (va2 := [.inr 0, .inl ((zv_up g3 x4 r40) x4)]) (F := [.inl f0, .inl f1, .inl f2, .inl r20.2.1, .inl r20.2.2.1, .inl f5]) (F' := [.inl f0, .inl f1, .inl f2, .inl r20.2.1, .inl r20.2.2.1, .inl f5]) (G := [g0, g1, g2, (zv_up g3 x4 r40), g4, g5, g6, r20.2.2.2.1, g8, g9, g10, r20.2.2.2.2.1, r20.2.2.2.2.2.1, r20.2.2.2.2.2.2.1, r20.2.2.2.2.2.2.2.1, g15, g16, r20.2.2.2.2.2.2.2.2]) (G' := [g0, g1, g2, (zv_up g3 x4 r40), g4, g5, g6, r20.2.2.2.1, g8, g9, g10, r20.2.2.2.2.1, r20.2.2.2.2.2.1, r20.2.2.2.2.2.2.1, r20.2.2.2.2.2.2.2.1, g15, g16, r20.2.2.2.2.2.2.2.2]) (ρ := [0, 5]) (φ := []) (ψ := [4]) [none, none, none, none, none, none] [none, none, none, none, some 0, none, none, none, none, none, none, none, none, none, none, none, none, none] zyw_M_isLand zyw_M_log zye_M_log (by decide +kernel) (zt_M_isLand hr42) trivial ⟨rfl, trivial⟩ rfl rfl rfl rfl rfl rfl rfl) zd314_213 zxt212 rfl (by decide) (by decide) rfl ?_
                  refine zv_zeq hB zd314_216 rfl (fun hc43 => ?_) (fun hc43 => ?_)
                  · rw [if_pos hc43] at h
                    refine zv_iincw hB zd314_227 rfl rfl ?_
                    refine zv_goto hB zd314_230 rfl ?_
                    exact ih _ _ _ _ _ _ _ _ _ _ _ _ _ _ _ _ _ _ q h hK
                  · rw [if_neg hc43] at h
                    refine zv_ald hB zd314_219 rfl rfl rfl ?_
                    refine zv_getr hB zd314_220 rfl ?_
                    refine zv_ild hB zd314_223 rfl rfl ?_
                    refine zv_con hB zd314_225 rfl ?_
                    refine zv_iast hB zd314_226 rfl rfl (zi_ix_ok c18).1 (zi_ix_ok c18).2 ?_
                    refine zv_iincw hB zd314_227 rfl rfl ?_
                    refine zv_goto hB zd314_230 rfl ?_
                    exact ih _ _ _ _ _ _ _ _ _ _ _ _ _ _ _ _ _ _ q h hK
            · rw [if_neg hc35] at h
              refine zv_ald hB zd314_153 rfl rfl rfl ?_
              refine zv_getr hB zd314_154 rfl ?_
              refine zv_ild hB zd314_157 rfl rfl ?_
              refine zv_con hB zd314_159 rfl ?_
              refine zv_iast hB zd314_160 rfl rfl (zi_ix_ok c18).1 (zi_ix_ok c18).2 ?_
              refine zv_goto hB zd314_161 rfl ?_
              refine zv_ald hB zd314_194 rfl rfl rfl ?_
              refine zv_getr hB zd314_195 rfl ?_
              refine zv_ild hB zd314_198 rfl rfl ?_
              refine zv_iald hB zd314_200 rfl rfl (zi_ix_ok c18).1 (zi_ix_ok c18).2 (fun _ _ => ?_)
              refine zv_con hB zd314_201 rfl ?_
              refine zv_ceq hB zd314_202 rfl (fun hc44 => ?_) (fun hc44 => ?_)
              · rw [if_pos hc44] at h
                refine zv_iincw hB zd314_227 rfl rfl ?_
                refine zv_goto hB zd314_230 rfl ?_
                exact ih _ _ _ _ _ _ _ _ _ _ _ _ _ _ _ _ _ _ q h hK
              · rw [if_neg hc44] at h
                refine zv_ald hB zd314_205 rfl rfl rfl ?_
                refine zv_ald hB zd314_206 rfl rfl rfl ?_
                refine zv_getr hB zd314_207 rfl ?_
                refine zv_ild hB zd314_210 rfl rfl ?_
                refine zv_iald hB zd314_212 rfl rfl (zi_ix_ok c18).1 (zi_ix_ok c18).2 (fun _ _ => ?_)
                obtain ⟨r45, hr45, h⟩ := zi_bind h
                refine zv_cv hB (zv_emq (va2 := [.inr 0, .inl ((zv_up g3 x4 (-1)) x4)]) (F := [.inl f0, .inl f1, .inl f2, .inl r20.2.1, .inl r20.2.2.1, .inl f5]) (F' := [.inl f0, .inl f1, .inl f2, .inl r20.2.1, .inl r20.2.2.1, .inl f5]) (G := [g0, g1, g2, (zv_up g3 x4 (-1)), g4, g5, g6, r20.2.2.2.1, g8, g9, g10, r20.2.2.2.2.1, r20.2.2.2.2.2.1, r20.2.2.2.2.2.2.1, r20.2.2.2.2.2.2.2.1, g15, g16, r20.2.2.2.2.2.2.2.2]) (G' := [g0, g1, g2, (zv_up g3 x4 (-1)), g4, g5, g6, r20.2.2.2.1, g8, g9, g10, r20.2.2.2.2.1, r20.2.2.2.2.2.1, r20.2.2.2.2.2.2.1, r20.2.2.2.2.2.2.2.1, g15, g16, r20.2.2.2.2.2.2.2.2]) (ρ := [0, 5]) (φ := []) (ψ := [4]) [none, none, none, none, none, none] [none, none, none, none, some 0, none, none, none, none, none, none, none, none, none, none, none, none, none] zyw_M_isLand zyw_M_log zye_M_log (by decide +kernel) (zt_M_isLand hr45) trivial ⟨rfl, trivial⟩ rfl rfl rfl rfl rfl rfl rfl) zd314_213 zxt212 rfl (by decide) (by decide) rfl ?_
                refine zv_zeq hB zd314_216 rfl (fun hc46 => ?_) (fun hc46 => ?_)
                · rw [if_pos hc46] at h
                  refine zv_iincw hB zd314_227 rfl rfl ?_
                  refine zv_goto hB zd314_230 rfl ?_
                  exact ih _ _ _ _ _ _ _ _ _ _ _ _ _ _ _ _ _ _ q h hK
                · rw [if_neg hc46] at h
                  refine zv_ald hB zd314_219 rfl rfl rfl ?_
                  refine zv_getr hB zd314_220 rfl ?_
                  refine zv_ild hB zd314_223 rfl rfl ?_
                  refine zv_con hB zd314_225 rfl ?_
                  refine zv_iast hB zd314_226 rfl rfl (zi_ix_ok c18).1 (zi_ix_ok c18).2 ?_
                  refine zv_iincw hB zd314_227 rfl rfl ?_
                  refine zv_goto hB zd314_230 rfl ?_
                  exact ih _ _ _ _ _ _ _ _ _ _ _ _ _ _ _ _ _ _ q h hK
        · rw [if_pos hc19] at h
          refine zv_goto hB zd314_121 rfl ?_
          refine zv_iincw hB zd314_227 rfl rfl ?_
          refine zv_goto hB zd314_230 rfl ?_
          exact ih _ _ _ _ _ _ _ _ _ _ _ _ _ _ _ _ _ _ q h hK
  have l1 : ∀ (n : Nat) (x1 : Int) (x2 : Int) (x3 : Int) (f1 : Int) (f3 : Int) (f4 : Int) (g0 : (Int → Int)) (g2 : (Int → Int)) (g3 : (Int → Int)) (g4 : (Int → Int)) (g5 : (Int → Int)) (g7 : (Int → Int)) (g11 : (Int → Int)) (g12 : (Int → Int)) (g13 : (Int → Int)) (g14 : (Int → Int)) (g17 : (Int → Int)) (q : Int × Int × (Int → Int) × (Int → Int) × (Int → Int) × (Int → Int) × (Int → Int) × (Int → Int) × (Int → Int) × (Int → Int)), zf_M_log_l1 x1 f0 f2 f5 g0 g2 g6 g8 g9 g10 g15 g16 n x3 f3 f4 g3 g4 g7 g11 g12 g13 g14 g17 = some q → (good 243 [.inr 0, .inr 1000, .inl x2, .inr 1000, .inr 1000, .inr 1000] [] [.inl f0, .inl f1, .inl f2, .inl q.1, .inl q.2.1, .inl f5] [g0, g1, g2, q.2.2.1, q.2.2.2.1, g5, g6, q.2.2.2.2.1, g8, g9, g10, q.2.2.2.2.2.1, q.2.2.2.2.2.2.1, q.2.2.2.2.2.2.2.1, q.2.2.2.2.2.2.2.2.1, g15, g16, q.2.2.2.2.2.2.2.2.2]) → good 94 [.inr 0, .inl x1, .inl x2, .inl x3, .inr 1000, .inr 1000] [] [.inl f0, .inl f1, .inl f2, .inl f3, .inl f4, .inl f5] [g0, g1, g2, g3, g4, g5, g6, g7, g8, g9, g10, g11, g12, g13, g14, g15, g16, g17] := by
    intro n
    induction n with
    | zero => intro x1 x2 x3 f1 f3 f4 g0 g2 g3 g4 g5 g7 g11 g12 g13 g14 g17 q h; exact absurd (show none = some q from h) (fun h => by cases h)
    | succ n ih =>
      intro x1 x2 x3 f1 f3 f4 g0 g2 g3 g4 g5 g7 g11 g12 g13 g14 g17 q h hK
      replace h : zf_M_log_l1_b x1 f0 f2 f5 g0 g2 g6 g8 g9 g10 g15 g16 (zf_M_log_l1 x1 f0 f2 f5 g0 g2 g6 g8 g9 g10 g15 g16 n) x3 f3 f4 g3 g4 g7 g11 g12 g13 g14 g17 = some q := h
      unfold zf_M_log_l1_b at h
      refine zv_ild hB zd314_94 rfl rfl ?_
      refine zv_ild hB zd314_95 rfl rfl ?_
      refine zv_cge hB zd314_96 rfl (fun hc16 => ?_) (fun hc16 => ?_)
      · rw [if_neg (Int.not_lt.mpr hc16)] at h
        have hq := Option.some.inj h
        subst hq
        refine zv_wk hB (L' := [.inr 0, .inr 1000, .inl x2, .inr 1000, .inr 1000, .inr 1000]) (F' := [.inl f0, .inl f1, .inl f2, .inl f3, .inl f4, .inl f5]) ⟨fun _ => rfl, fun (h : zv_is (.inr 1000)) => (Nat.lt_irrefl 1000 h).elim, fun _ => rfl, fun (h : zv_is (.inr 1000)) => (Nat.lt_irrefl 1000 h).elim, fun (h : zv_is (.inr 1000)) => (Nat.lt_irrefl 1000 h).elim, fun (h : zv_is (.inr 1000)) => (Nat.lt_irrefl 1000 h).elim, trivial⟩ ⟨fun _ => rfl, fun _ => rfl, fun _ => rfl, fun _ => rfl, fun _ => rfl, fun _ => rfl, trivial⟩ ?_
        exact hK
      · rw [if_pos hc16] at h
        refine zv_con hB zd314_99 rfl ?_
        refine zv_ist hB zd314_100 rfl rfl rfl ?_
        obtain ⟨q47, hq47, h⟩ := zi_bind h
        refine l2 _ _ _ _ _ _ _ _ _ _ _ _ _ _ _ _ _ _ _ q47 hq47 ?_
        show good 233 [.inr 0, .inl x1, .inl x2, .inl x3, .inr 1000, .inr 1000] [] [.inl f0, .inl f1, .inl f2, .inl q47.1, .inl q47.2.1, .inl f5] [g0, g1, g2, q47.2.2.1, g4, g5, g6, q47.2.2.2.1, g8, g9, g10, q47.2.2.2.2.1, q47.2.2.2.2.2.1, q47.2.2.2.2.2.2.1, q47.2.2.2.2.2.2.2.1, g15, g16, q47.2.2.2.2.2.2.2.2]
        refine zv_ald hB zd314_233 rfl rfl rfl ?_
        obtain ⟨r48, hr48, h⟩ := zi_bind h
        refine zv_cv hB (zv_emq (va2 := [.inr 0]) (F := [.inl f0, .inl f1, .inl f2, .inl q47.1, .inl q47.2.1, .inl f5]) (F' := [.inl f0, .inl f1, .inl f2, .inl q47.1, .inl q47.2.1, .inl f5]) (G := [g0, g1, g2, q47.2.2.1, g4, g5, g6, q47.2.2.2.1, g8, g9, g10, q47.2.2.2.2.1, q47.2.2.2.2.2.1, q47.2.2.2.2.2.2.1, q47.2.2.2.2.2.2.2.1, g15, g16, q47.2.2.2.2.2.2.2.2]) (G' := [g0, g1, g2, q47.2.2.1, r48, g5, g6, q47.2.2.2.1, g8, g9, g10, q47.2.2.2.2.1, q47.2.2.2.2.2.1, q47.2.2.2.2.2.2.1, q47.2.2.2.2.2.2.2.1, g15, g16, q47.2.2.2.2.2.2.2.2]) (ρ := [0, 5]) (φ := []) (ψ := [4]) [none, none, none, none, none, none] [none, none, none, none, some 0, none, none, none, none, none, none, none, none, none, none, none, none, none] zyw_M_passes zyw_M_log zye_M_log (by decide +kernel) (zt_M_passes hr48) trivial ⟨rfl, trivial⟩ rfl rfl rfl rfl rfl rfl rfl) zd314_234 zxt294 rfl (by decide) (by decide) rfl ?_
        refine zv_iincw hB zd314_237 rfl rfl ?_
        refine zv_goto hB zd314_240 rfl ?_
        exact ih _ _ _ _ _ _ _ _ _ _ _ _ _ _ _ _ _ q h hK
  have l3 : ∀ (n : Nat) (x2 : Int) (x3 : Int) (x4 : Int) (x5 : Int) (f1 : Int) (f3 : Int) (f4 : Int) (g0 : (Int → Int)) (g2 : (Int → Int)) (g3 : (Int → Int)) (g4 : (Int → Int)) (g5 : (Int → Int)) (g7 : (Int → Int)) (g11 : (Int → Int)) (g12 : (Int → Int)) (g13 : (Int → Int)) (g14 : (Int → Int)) (g17 : (Int → Int)) (q : Int × Int), zf_M_log_l3 g3 n x3 x4 x5 = some q → (good 301 [.inr 1000, .inr 1000, .inl x2, .inl q.1, .inl q.2, .inr 1000] [] [.inl f0, .inl f1, .inl f2, .inl f3, .inl f4, .inl f5] [g0, g1, g2, g3, g4, g5, g6, g7, g8, g9, g10, g11, g12, g13, g14, g15, g16, g17]) → good 256 [.inr 0, .inr 1000, .inl x2, .inl x3, .inl x4, .inl x5] [] [.inl f0, .inl f1, .inl f2, .inl f3, .inl f4, .inl f5] [g0, g1, g2, g3, g4, g5, g6, g7, g8, g9, g10, g11, g12, g13, g14, g15, g16, g17] := by
    intro n
    induction n with
    | zero => intro x2 x3 x4 x5 f1 f3 f4 g0 g2 g3 g4 g5 g7 g11 g12 g13 g14 g17 q h; exact absurd (show none = some q from h) (fun h => by cases h)
    | succ n ih =>
      intro x2 x3 x4 x5 f1 f3 f4 g0 g2 g3 g4 g5 g7 g11 g12 g13 g14 g17 q h hK
      replace h : zf_M_log_l3_b g3 (zf_M_log_l3 g3 n) x3 x4 x5 = some q := h
      unfold zf_M_log_l3_b at h
      refine zv_ild hB zd314_256 rfl rfl ?_
      refine zv_con hB zd314_258 rfl ?_
      refine zv_cge hB zd314_261 rfl (fun hc51 => ?_) (fun hc51 => ?_)
      · rw [if_neg (Int.not_lt.mpr hc51)] at h
        have hq := Option.some.inj h
        subst hq
        refine zv_wk hB (L' := [.inr 1000, .inr 1000, .inl x2, .inl x3, .inl x4, .inr 1000]) (F' := [.inl f0, .inl f1, .inl f2, .inl f3, .inl f4, .inl f5]) ⟨fun (h : zv_is (.inr 1000)) => (Nat.lt_irrefl 1000 h).elim, fun (h : zv_is (.inr 1000)) => (Nat.lt_irrefl 1000 h).elim, fun _ => rfl, fun _ => rfl, fun _ => rfl, fun (h : zv_is (.inr 1000)) => (Nat.lt_irrefl 1000 h).elim, trivial⟩ ⟨fun _ => rfl, fun _ => rfl, fun _ => rfl, fun _ => rfl, fun _ => rfl, fun _ => rfl, trivial⟩ ?_
        exact hK
      · rw [if_pos hc51] at h
        refine zv_ald hB zd314_264 rfl rfl rfl ?_
        refine zv_getr hB zd314_265 rfl ?_
        refine zv_ild hB zd314_268 rfl rfl ?_
        obtain ⟨c52, h⟩ := zi_if h
        refine zv_iald hB zd314_270 rfl rfl (zi_ix_ok c52).1 (zi_ix_ok c52).2 (fun _ _ => ?_)
        refine zv_con hB zd314_271 rfl ?_
        refine zv_cne hB zd314_272 rfl (fun hc53 => ?_) (fun hc53 => ?_)
        · rw [if_neg hc53] at h
          refine zv_ild hB zd314_278 rfl rfl ?_
          refine zv_zne hB zd314_279 rfl (fun hc54 => ?_) (fun hc54 => ?_)
          · rw [if_neg hc54] at h
            refine zv_ild hB zd314_287 rfl rfl ?_
            refine zv_ist hB zd314_289 rfl rfl rfl ?_
            refine zv_ild hB zd314_291 rfl rfl ?_
            refine zv_con hB zd314_292 rfl ?_
            refine zv_addw hB zd314_293 ?_
            refine zv_ist hB zd314_294 rfl rfl rfl ?_
            refine zv_iincw hB zd314_295 rfl rfl ?_
            refine zv_goto hB zd314_298 rfl ?_
            exact ih _ _ _ _ _ _ _ _ _ _ _ _ _ _ _ _ _ _ q h hK
          · rw [if_pos hc54] at h
            refine zv_ild hB zd314_282 rfl rfl ?_
            refine zv_goto hB zd314_284 rfl ?_
            refine zv_ist hB zd314_289 rfl rfl rfl ?_
            refine zv_ild hB zd314_291 rfl rfl ?_
            refine zv_con hB zd314_292 rfl ?_
            refine zv_addw hB zd314_293 ?_
            refine zv_ist hB zd314_294 rfl rfl rfl ?_
            refine zv_iincw hB zd314_295 rfl rfl ?_
            refine zv_goto hB zd314_298 rfl ?_
            exact ih _ _ _ _ _ _ _ _ _ _ _ _ _ _ _ _ _ _ q h hK
        · rw [if_pos hc53] at h
          refine zv_goto hB zd314_275 rfl ?_
          refine zv_iincw hB zd314_295 rfl rfl ?_
          refine zv_goto hB zd314_298 rfl ?_
          exact ih _ _ _ _ _ _ _ _ _ _ _ _ _ _ _ _ _ _ q h hK
  unfold zf_M_log at h
  refine zv_ild hB zd314_0 rfl rfl ?_
  refine zv_con hB zd314_1 rfl ?_
  refine zv_con hB zd314_2 rfl ?_
  obtain ⟨r1, hr1, h⟩ := zi_bind h
  refine zv_cs hB (zv_emq (va2 := [.inl x1, .inl 1, .inl 12]) (F := [.inl f0, .inl f1, .inl f2, .inl f3, .inl f4, .inl f5]) (F' := [.inl f0, .inl f1, .inl f2, .inl f3, .inl f4, .inl f5]) (G := [g0, g1, g2, g3, g4, g5, g6, g7, g8, g9, g10, g11, g12, g13, g14, g15, g16, g17]) (G' := [g0, g1, g2, g3, g4, g5, g6, g7, g8, g9, g10, g11, g12, g13, g14, g15, g16, g17]) (ρ := []) (φ := []) (ψ := []) [none, none, none, none, none, none] [none, none, none, none, none, none, none, none, none, none, none, none, none, none, none, none, none, none] zyw_M_in zyw_M_log zye_M_log (by decide +kernel) (zt_M_in hr1) trivial trivial rfl rfl rfl rfl rfl rfl rfl) zd314_4 zxt200 rfl (by decide) (by decide) rfl ?_
  refine zv_zeq hB zd314_7 rfl (fun hc2 => ?_) (fun hc2 => ?_)
  · rw [if_pos hc2] at h
    refine zv_con hB zd314_36 rfl ?_
    have hw := Option.some.inj h
    subst hw
    exact hret _ _ _ _ _ zd314_37 (by trivial) ⟨rfl, rfl, rfl⟩
  · rw [if_neg hc2] at h
    refine zv_ild hB zd314_10 rfl rfl ?_
    refine zv_con hB zd314_11 rfl ?_
    refine zv_con hB zd314_12 rfl ?_
    obtain ⟨r3, hr3, h⟩ := zi_bind h
    refine zv_cs hB (zv_emq (va2 := [.inl x2, .inl 0, .inl 1]) (F := [.inl f0, .inl f1, .inl f2, .inl f3, .inl f4, .inl f5]) (F' := [.inl f0, .inl f1, .inl f2, .inl f3, .inl f4, .inl f5]) (G := [g0, g1, g2, g3, g4, g5, g6, g7, g8, g9, g10, g11, g12, g13, g14, g15, g16, g17]) (G' := [g0, g1, g2, g3, g4, g5, g6, g7, g8, g9, g10, g11, g12, g13, g14, g15, g16, g17]) (ρ := []) (φ := []) (ψ := []) [none, none, none, none, none, none] [none, none, none, none, none, none, none, none, none, none, none, none, none, none, none, none, none, none] zyw_M_in zyw_M_log zye_M_log (by decide +kernel) (zt_M_in hr3) trivial trivial rfl rfl rfl rfl rfl rfl rfl) zd314_13 zxt200 rfl (by decide) (by decide) rfl ?_
    refine zv_zeq hB zd314_16 rfl (fun hc4 => ?_) (fun hc4 => ?_)
    · rw [if_pos hc4] at h
      refine zv_con hB zd314_36 rfl ?_
      have hw := Option.some.inj h
      subst hw
      exact hret _ _ _ _ _ zd314_37 (by trivial) ⟨rfl, rfl, rfl⟩
    · rw [if_neg hc4] at h
      refine zv_ald hB zd314_19 rfl rfl rfl ?_
      refine zv_getf hB zd314_20 rfl rfl (fun _ _ => ?_)
      refine zv_zeq hB zd314_23 rfl (fun hc5 => ?_) (fun hc5 => ?_)
      · rw [if_pos hc5] at h
        refine zv_con hB zd314_36 rfl ?_
        have hw := Option.some.inj h
        subst hw
        exact hret _ _ _ _ _ zd314_37 (by trivial) ⟨rfl, rfl, rfl⟩
      · rw [if_neg hc5] at h
        refine zv_con hB zd314_26 rfl ?_
        refine zv_ild hB zd314_27 rfl rfl ?_
        refine zv_mulw hB zd314_28 ?_
        refine zv_ald hB zd314_29 rfl rfl rfl ?_
        refine zv_getf hB zd314_30 rfl rfl (fun _ _ => ?_)
        refine zv_cle hB zd314_33 rfl (fun hc6 => ?_) (fun hc6 => ?_)
        · rw [if_neg (Int.not_lt.mpr hc6)] at h
          refine zv_ald hB zd314_38 rfl rfl rfl ?_
          refine zv_con hB zd314_39 rfl ?_
          refine zv_putf hB zd314_40 rfl rfl (fun h => by cases h) rfl ?_
          refine zv_ald hB zd314_43 rfl rfl rfl ?_
          refine zv_ild hB zd314_44 rfl rfl ?_
          obtain ⟨r7, hr7, h⟩ := zi_bind h
          refine zv_cv hB (zv_emq (va2 := [.inr 0, .inl x1]) (F := [.inl f0, .inl 0, .inl f2, .inl f3, .inl f4, .inl f5]) (F' := [.inl f0, .inl 0, .inl f2, .inl f3, .inl f4, .inl f5]) (G := [g0, g1, g2, g3, g4, g5, g6, g7, g8, g9, g10, g11, g12, g13, g14, g15, g16, g17]) (G' := [r7.2.1, g1, r7.2.2, g3, g4, g5, g6, g7, g8, g9, g10, g11, g12, g13, g14, g15, g16, g17]) (ρ := [0, 1, 2, 3]) (φ := []) (ψ := [0, 1, 2]) [none, none, none, none, none, none] [some 0, some 1, some 2, none, none, none, none, none, none, none, none, none, none, none, none, none, none, none] zyw_M_takesLog zyw_M_log zye_M_log (by decide +kernel) (zt_M_takesLog hr7) trivial ⟨rfl, rfl, rfl, trivial⟩ rfl rfl rfl rfl rfl rfl rfl) zd314_45 zxt315 rfl (by decide) (by decide) rfl ?_
          refine zv_zne hB zd314_48 rfl (fun hc8 => ?_) (fun hc8 => ?_)
          · rw [if_neg hc8] at h
            refine zv_con hB zd314_54 rfl ?_
            refine zv_ist hB zd314_55 rfl rfl rfl ?_
            obtain ⟨q14, hq14, h⟩ := zi_bind h
            refine l0 _ _ _ _ _ _ _ _ _ _ _ _ _ _ _ _ _ _ q14 hq14 ?_
            show good 88 [.inr 0, .inl x1, .inl x2, .inr 1000, .inr 1000, .inr 1000] [] [.inl f0, .inl 0, .inl f2, .inl f3, .inl f4, .inl f5] [r7.2.1, g1, r7.2.2, q14, g4, g5, g6, g7, g8, g9, g10, g11, g12, g13, g14, g15, g16, g17]
            refine zv_ald hB zd314_88 rfl rfl rfl ?_
            obtain ⟨r15, hr15, h⟩ := zi_bind h
            refine zv_cv hB (zv_emq (va2 := [.inr 0]) (F := [.inl f0, .inl 0, .inl f2, .inl f3, .inl f4, .inl f5]) (F' := [.inl f0, .inl 0, .inl f2, .inl f3, .inl f4, .inl f5]) (G := [r7.2.1, g1, r7.2.2, q14, g4, g5, g6, g7, g8, g9, g10, g11, g12, g13, g14, g15, g16, g17]) (G' := [r7.2.1, g1, r7.2.2, q14, g4, r15, g6, g7, g8, g9, g10, g11, g12, g13, g14, g15, g16, g17]) (ρ := [0, 5, 6]) (φ := []) (ψ := [4, 5]) [none, none, none, none, none, none] [none, none, none, none, some 0, some 1, none, none, none, none, none, none, none, none, none, none, none, none] zyw_M_begins zyw_M_log zye_M_log (by decide +kernel) (zt_M_begins hr15) trivial ⟨rfl, rfl, trivial⟩ rfl rfl rfl rfl rfl rfl rfl) zd314_89 zxt299 rfl (by decide) (by decide) rfl ?_
            refine zv_con hB zd314_92 rfl ?_
            refine zv_ist hB zd314_93 rfl rfl rfl ?_
            obtain ⟨q49, hq49, h⟩ := zi_bind h
            refine l1 _ _ _ _ _ _ _ _ _ _ _ _ _ _ _ _ _ _ q49 hq49 ?_
            show good 243 [.inr 0, .inr 1000, .inl x2, .inr 1000, .inr 1000, .inr 1000] [] [.inl f0, .inl 0, .inl f2, .inl q49.1, .inl q49.2.1, .inl f5] [r7.2.1, g1, r7.2.2, q49.2.2.1, q49.2.2.2.1, r15, g6, q49.2.2.2.2.1, g8, g9, g10, q49.2.2.2.2.2.1, q49.2.2.2.2.2.2.1, q49.2.2.2.2.2.2.2.1, q49.2.2.2.2.2.2.2.2.1, g15, g16, q49.2.2.2.2.2.2.2.2.2]
            refine zv_ald hB zd314_243 rfl rfl rfl ?_
            obtain ⟨r50, hr50, h⟩ := zi_bind h
            refine zv_cv hB (zv_emq (va2 := [.inr 0]) (F := [.inl f0, .inl 0, .inl f2, .inl q49.1, .inl q49.2.1, .inl f5]) (F' := [.inl f0, .inl 0, .inl f2, .inl q49.1, .inl q49.2.1, .inl f5]) (G := [r7.2.1, g1, r7.2.2, q49.2.2.1, q49.2.2.2.1, r15, g6, q49.2.2.2.2.1, g8, g9, g10, q49.2.2.2.2.2.1, q49.2.2.2.2.2.2.1, q49.2.2.2.2.2.2.2.1, q49.2.2.2.2.2.2.2.2.1, g15, g16, q49.2.2.2.2.2.2.2.2.2]) (G' := [r7.2.1, g1, r7.2.2, q49.2.2.1, r50, r15, g6, q49.2.2.2.2.1, g8, g9, g10, q49.2.2.2.2.2.1, q49.2.2.2.2.2.2.1, q49.2.2.2.2.2.2.2.1, q49.2.2.2.2.2.2.2.2.1, g15, g16, q49.2.2.2.2.2.2.2.2.2]) (ρ := [0, 6, 5]) (φ := []) (ψ := [5, 4]) [none, none, none, none, none, none] [none, none, none, none, some 1, some 0, none, none, none, none, none, none, none, none, none, none, none, none] zyw_M_again zyw_M_log zye_M_log (by decide +kernel) (zt_M_again hr50) trivial ⟨rfl, rfl, trivial⟩ rfl rfl rfl rfl rfl rfl rfl) zd314_244 zxt301 rfl (by decide) (by decide) rfl ?_
            refine zv_con hB zd314_247 rfl ?_
            refine zv_ist hB zd314_248 rfl rfl rfl ?_
            refine zv_con hB zd314_249 rfl ?_
            refine zv_ist hB zd314_251 rfl rfl rfl ?_
            refine zv_con hB zd314_253 rfl ?_
            refine zv_ist hB zd314_254 rfl rfl rfl ?_
            obtain ⟨q55, hq55, h⟩ := zi_bind h
            refine l3 _ _ _ _ _ _ _ _ _ _ _ _ _ _ _ _ _ _ _ q55 hq55 ?_
            show good 301 [.inr 1000, .inr 1000, .inl x2, .inl q55.1, .inl q55.2, .inr 1000] [] [.inl f0, .inl 0, .inl f2, .inl q49.1, .inl q49.2.1, .inl f5] [r7.2.1, g1, r7.2.2, q49.2.2.1, r50, r15, g6, q49.2.2.2.2.1, g8, g9, g10, q49.2.2.2.2.2.1, q49.2.2.2.2.2.2.1, q49.2.2.2.2.2.2.2.1, q49.2.2.2.2.2.2.2.2.1, g15, g16, q49.2.2.2.2.2.2.2.2.2]
            refine zv_ild hB zd314_301 rfl rfl ?_
            refine zv_zne hB zd314_302 rfl (fun hc56 => ?_) (fun hc56 => ?_)
            · rw [if_neg hc56] at h
              refine zv_ild hB zd314_309 rfl rfl ?_
              have hw := Option.some.inj h
              subst hw
              exact hret _ _ _ _ _ zd314_311 (by trivial) ⟨rfl, rfl, rfl⟩
            · rw [if_pos hc56] at h
              refine zv_ild hB zd314_305 rfl rfl ?_
              refine zv_goto hB zd314_306 rfl ?_
              have hw := Option.some.inj h
              subst hw
              exact hret _ _ _ _ _ zd314_311 (by trivial) ⟨rfl, rfl, rfl⟩
          · rw [if_pos hc8] at h
            refine zv_con hB zd314_51 rfl ?_
            have hw := Option.some.inj h
            subst hw
            exact hret _ _ _ _ _ zd314_53 (by trivial) ⟨rfl, rfl, rfl⟩
        · rw [if_pos hc6] at h
          refine zv_con hB zd314_36 rfl ?_
          have hw := Option.some.inj h
          subst hw
          exact hret _ _ _ _ _ zd314_37 (by trivial) ⟨rfl, rfl, rfl⟩
