/-! 62s.dec, 62t.dec -/
section
/-! Methods as functions, and that they do what these do. -/
/-! M_log (II)I -/
-- names: 0 StarTalesModel('arg', 0), 1 (0, 12)(0, 12, 60), 2 (1, 220)(0, 12, 3), 3 (0, 12)(0, 12, 61), 4 (0, 288)(0, 12, 62), 5 (0, 422)(0, 12, 0), 6 (0, 422)(0, 12, 1), 7 (0, 14)(0, 12, 21), 8 (0, 13)(0, 12, 26), 9 (0, 14)(0, 12, 23), 10 (0, 14)(0, 12, 24), 11 (0, 220)(0, 12, 20), 12 (0, 220)(0, 12, 25), 13 (0, 24)(0, 12, 28), 14 (0, 8)(0, 12, 38), 15 (0, 8)(0, 12, 39), 16 (0, 12)(0, 12, 34), 17 (0, 12)(0, 12, 35), 18 (0, 8)(0, 12, 40)
-- fields: f0 = 0.taleLines_, f1 = 0.taped_, f2 = 0.clauses_, f3 = 0.seen0_, f4 = 0.nameMany_, f5 = 0.namesIn_; arrays: g0 = 1, g1 = 2, g2 = 3, g3 = 4, g4 = 5, g5 = 6, g6 = 7, g7 = 8, g8 = 9, g9 = 10, g10 = 11, g11 = 12, g12 = 13, g13 = 14, g14 = 15, g15 = 16, g16 = 17, g17 = 18; out: [('ret', None), ('f', 1), ('f', 3), ('f', 4), ('g', 0), ('g', 2), ('g', 3), ('g', 4), ('g', 5), ('g', 7), ('g', 11), ('g', 12), ('g', 13), ('g', 14), ('g', 17)]
abbrev zy_M_log : zNL := (19, [(0, 12)], [(0, 12, 31, 0), (0, 12, 4, 1), (0, 12, 13, 2), (0, 12, 27, 3), (0, 12, 41, 4), (0, 12, 33, 5)], [(0, 12, 60, 1), (0, 12, 3, 2), (0, 12, 61, 3), (0, 12, 62, 4), (0, 12, 0, 5), (0, 12, 1, 6), (0, 12, 21, 7), (0, 12, 26, 8), (0, 12, 23, 9), (0, 12, 24, 10), (0, 12, 20, 11), (0, 12, 25, 12), (0, 12, 28, 13), (0, 12, 38, 14), (0, 12, 39, 15), (0, 12, 34, 16), (0, 12, 35, 17), (0, 12, 40, 18)], [(1, 0, 12, 0), (2, 1, 220, 1), (3, 0, 12, 2), (4, 0, 288, 3), (5, 0, 422, 4), (6, 0, 422, 5), (7, 0, 14, 6), (8, 0, 13, 7), (9, 0, 14, 8), (10, 0, 14, 9), (11, 0, 220, 10), (12, 0, 220, 11), (13, 0, 24, 12), (14, 0, 8, 13), (15, 0, 8, 14), (16, 0, 12, 15), (17, 0, 12, 16), (18, 0, 8, 17)])
theorem zyw_M_log : zv_wf zy_M_log = true := by decide +kernel
theorem zye_M_log : zv_ek2 zy_M_log = true := by decide +kernel
def zf_M_log_l0_b (g4 : (Int → Int)) (rec : Int → (Int → Int) → Option ((Int → Int))) (x3 : Int) (g3 : (Int → Int)) : Option ((Int → Int)) := if x3 < 288 then ((zf_M_isLand x3 g4).bind fun r10 => (if r10 = 0 then (cond (zi_ix x3 288) (rec (zi_w (x3 + 1)) (zv_up g3 x3 x3)) none) else (cond (zi_ix x3 288) (rec (zi_w (x3 + 1)) (zv_up g3 x3 (-1))) none))) else (some g3)
def zf_M_log_l0 (g4 : (Int → Int)) : Nat → Int → (Int → Int) → Option ((Int → Int))
  | 0, _, _ => none
  | n + 1, x3, g3 => zf_M_log_l0_b g4 (zf_M_log_l0 g4 n) x3 g3
def zf_M_log_l2_b (x1 : Int) (x3 : Int) (f0 : Int) (f2 : Int) (f5 : Int) (g0 : (Int → Int)) (g2 : (Int → Int)) (g4 : (Int → Int)) (g6 : (Int → Int)) (g8 : (Int → Int)) (g9 : (Int → Int)) (g10 : (Int → Int)) (g15 : (Int → Int)) (g16 : (Int → Int)) (rec : Int → Int → Int → (Int → Int) → (Int → Int) → (Int → Int) → (Int → Int) → (Int → Int) → (Int → Int) → (Int → Int) → Option (Int × Int × (Int → Int) × (Int → Int) × (Int → Int) × (Int → Int) × (Int → Int) × (Int → Int) × (Int → Int))) (x4 : Int) (f3 : Int) (f4 : Int) (g3 : (Int → Int)) (g7 : (Int → Int)) (g11 : (Int → Int)) (g12 : (Int → Int)) (g13 : (Int → Int)) (g14 : (Int → Int)) (g17 : (Int → Int)) : Option (Int × Int × (Int → Int) × (Int → Int) × (Int → Int) × (Int → Int) × (Int → Int) × (Int → Int) × (Int → Int)) := if x4 < 288 then (cond (zi_ix x4 288) (if (g3 x4) = (-1) then (rec (zi_w (x4 + 1)) f3 f4 g3 g7 g11 g12 g13 g14 g17) else ((zf_M_canBeTold (g3 x4) f2 f3 f4 f5 f0 g4 g6 g7 g8 g9 g10 g11 g12 g13 g14 g15 g16 g17).bind fun r20 => (cond (zi_ix x3 12) (if (g0 x3) = 1 then (if r20.1 = 1 then (if (zi_w (x3 + 1)) < x1 then ((zf_M_goesTo (g3 x4) (g2 x3)).bind fun r40 => (if ((zv_up g3 x4 r40) x4) = (-1) then (rec (zi_w (x4 + 1)) r20.2.1 r20.2.2.1 (zv_up g3 x4 r40) r20.2.2.2.1 r20.2.2.2.2.1 r20.2.2.2.2.2.1 r20.2.2.2.2.2.2.1 r20.2.2.2.2.2.2.2.1 r20.2.2.2.2.2.2.2.2) else ((zf_M_isLand ((zv_up g3 x4 r40) x4) g4).bind fun r42 => (if r42 = 0 then (rec (zi_w (x4 + 1)) r20.2.1 r20.2.2.1 (zv_up g3 x4 r40) r20.2.2.2.1 r20.2.2.2.2.1 r20.2.2.2.2.2.1 r20.2.2.2.2.2.2.1 r20.2.2.2.2.2.2.2.1 r20.2.2.2.2.2.2.2.2) else (rec (zi_w (x4 + 1)) r20.2.1 r20.2.2.1 (zv_up (zv_up g3 x4 r40) x4 (-1)) r20.2.2.2.1 r20.2.2.2.2.1 r20.2.2.2.2.2.1 r20.2.2.2.2.2.2.1 r20.2.2.2.2.2.2.2.1 r20.2.2.2.2.2.2.2.2))))) else ((zf_M_isLand (g3 x4) g4).bind fun r38 => (if r38 = 0 then (rec (zi_w (x4 + 1)) r20.2.1 r20.2.2.1 g3 r20.2.2.2.1 r20.2.2.2.2.1 r20.2.2.2.2.2.1 r20.2.2.2.2.2.2.1 r20.2.2.2.2.2.2.2.1 r20.2.2.2.2.2.2.2.2) else (rec (zi_w (x4 + 1)) r20.2.1 r20.2.2.1 (zv_up g3 x4 (-1)) r20.2.2.2.1 r20.2.2.2.2.1 r20.2.2.2.2.2.1 r20.2.2.2.2.2.2.1 r20.2.2.2.2.2.2.2.1 r20.2.2.2.2.2.2.2.2)))) else (if ((zv_up g3 x4 (-1)) x4) = (-1) then (rec (zi_w (x4 + 1)) r20.2.1 r20.2.2.1 (zv_up g3 x4 (-1)) r20.2.2.2.1 r20.2.2.2.2.1 r20.2.2.2.2.2.1 r20.2.2.2.2.2.2.1 r20.2.2.2.2.2.2.2.1 r20.2.2.2.2.2.2.2.2) else ((zf_M_isLand ((zv_up g3 x4 (-1)) x4) g4).bind fun r45 => (if r45 = 0 then (rec (zi_w (x4 + 1)) r20.2.1 r20.2.2.1 (zv_up g3 x4 (-1)) r20.2.2.2.1 r20.2.2.2.2.1 r20.2.2.2.2.2.1 r20.2.2.2.2.2.2.1 r20.2.2.2.2.2.2.2.1 r20.2.2.2.2.2.2.2.2) else (rec (zi_w (x4 + 1)) r20.2.1 r20.2.2.1 (zv_up (zv_up g3 x4 (-1)) x4 (-1)) r20.2.2.2.1 r20.2.2.2.2.1 r20.2.2.2.2.2.1 r20.2.2.2.2.2.2.1 r20.2.2.2.2.2.2.2.1 r20.2.2.2.2.2.2.2.2))))) else (if r20.1 = 0 then (if (zi_w (x3 + 1)) < x1 then ((zf_M_goesTo (g3 x4) (g2 x3)).bind fun r28 => (if ((zv_up g3 x4 r28) x4) = (-1) then (rec (zi_w (x4 + 1)) r20.2.1 r20.2.2.1 (zv_up g3 x4 r28) r20.2.2.2.1 r20.2.2.2.2.1 r20.2.2.2.2.2.1 r20.2.2.2.2.2.2.1 r20.2.2.2.2.2.2.2.1 r20.2.2.2.2.2.2.2.2) else ((zf_M_isLand ((zv_up g3 x4 r28) x4) g4).bind fun r30 => (if r30 = 0 then (rec (zi_w (x4 + 1)) r20.2.1 r20.2.2.1 (zv_up g3 x4 r28) r20.2.2.2.1 r20.2.2.2.2.1 r20.2.2.2.2.2.1 r20.2.2.2.2.2.2.1 r20.2.2.2.2.2.2.2.1 r20.2.2.2.2.2.2.2.2) else (rec (zi_w (x4 + 1)) r20.2.1 r20.2.2.1 (zv_up (zv_up g3 x4 r28) x4 (-1)) r20.2.2.2.1 r20.2.2.2.2.1 r20.2.2.2.2.2.1 r20.2.2.2.2.2.2.1 r20.2.2.2.2.2.2.2.1 r20.2.2.2.2.2.2.2.2))))) else ((zf_M_isLand (g3 x4) g4).bind fun r26 => (if r26 = 0 then (rec (zi_w (x4 + 1)) r20.2.1 r20.2.2.1 g3 r20.2.2.2.1 r20.2.2.2.2.1 r20.2.2.2.2.2.1 r20.2.2.2.2.2.2.1 r20.2.2.2.2.2.2.2.1 r20.2.2.2.2.2.2.2.2) else (rec (zi_w (x4 + 1)) r20.2.1 r20.2.2.1 (zv_up g3 x4 (-1)) r20.2.2.2.1 r20.2.2.2.2.1 r20.2.2.2.2.2.1 r20.2.2.2.2.2.2.1 r20.2.2.2.2.2.2.2.1 r20.2.2.2.2.2.2.2.2)))) else (if ((zv_up g3 x4 (-1)) x4) = (-1) then (rec (zi_w (x4 + 1)) r20.2.1 r20.2.2.1 (zv_up g3 x4 (-1)) r20.2.2.2.1 r20.2.2.2.2.1 r20.2.2.2.2.2.1 r20.2.2.2.2.2.2.1 r20.2.2.2.2.2.2.2.1 r20.2.2.2.2.2.2.2.2) else ((zf_M_isLand ((zv_up g3 x4 (-1)) x4) g4).bind fun r33 => (if r33 = 0 then (rec (zi_w (x4 + 1)) r20.2.1 r20.2.2.1 (zv_up g3 x4 (-1)) r20.2.2.2.1 r20.2.2.2.2.1 r20.2.2.2.2.2.1 r20.2.2.2.2.2.2.1 r20.2.2.2.2.2.2.2.1 r20.2.2.2.2.2.2.2.2) else (rec (zi_w (x4 + 1)) r20.2.1 r20.2.2.1 (zv_up (zv_up g3 x4 (-1)) x4 (-1)) r20.2.2.2.1 r20.2.2.2.2.1 r20.2.2.2.2.2.1 r20.2.2.2.2.2.2.1 r20.2.2.2.2.2.2.2.1 r20.2.2.2.2.2.2.2.2)))))) none))) none) else (some (f3, f4, g3, g7, g11, g12, g13, g14, g17))
def zf_M_log_l2 (x1 : Int) (x3 : Int) (f0 : Int) (f2 : Int) (f5 : Int) (g0 : (Int → Int)) (g2 : (Int → Int)) (g4 : (Int → Int)) (g6 : (Int → Int)) (g8 : (Int → Int)) (g9 : (Int → Int)) (g10 : (Int → Int)) (g15 : (Int → Int)) (g16 : (Int → Int)) : Nat → Int → Int → Int → (Int → Int) → (Int → Int) → (Int → Int) → (Int → Int) → (Int → Int) → (Int → Int) → (Int → Int) → Option (Int × Int × (Int → Int) × (Int → Int) × (Int → Int) × (Int → Int) × (Int → Int) × (Int → Int) × (Int → Int))
  | 0, _, _, _, _, _, _, _, _, _, _ => none
  | n + 1, x4, f3, f4, g3, g7, g11, g12, g13, g14, g17 => zf_M_log_l2_b x1 x3 f0 f2 f5 g0 g2 g4 g6 g8 g9 g10 g15 g16 (zf_M_log_l2 x1 x3 f0 f2 f5 g0 g2 g4 g6 g8 g9 g10 g15 g16 n) x4 f3 f4 g3 g7 g11 g12 g13 g14 g17
def zf_M_log_l1_b (x1 : Int) (f0 : Int) (f2 : Int) (f5 : Int) (g0 : (Int → Int)) (g2 : (Int → Int)) (g6 : (Int → Int)) (g8 : (Int → Int)) (g9 : (Int → Int)) (g10 : (Int → Int)) (g15 : (Int → Int)) (g16 : (Int → Int)) (rec : Int → Int → Int → (Int → Int) → (Int → Int) → (Int → Int) → (Int → Int) → (Int → Int) → (Int → Int) → (Int → Int) → (Int → Int) → Option (Int × Int × (Int → Int) × (Int → Int) × (Int → Int) × (Int → Int) × (Int → Int) × (Int → Int) × (Int → Int) × (Int → Int))) (x3 : Int) (f3 : Int) (f4 : Int) (g3 : (Int → Int)) (g4 : (Int → Int)) (g7 : (Int → Int)) (g11 : (Int → Int)) (g12 : (Int → Int)) (g13 : (Int → Int)) (g14 : (Int → Int)) (g17 : (Int → Int)) : Option (Int × Int × (Int → Int) × (Int → Int) × (Int → Int) × (Int → Int) × (Int → Int) × (Int → Int) × (Int → Int) × (Int → Int)) := if x3 < x1 then ((zf_M_log_l2 x1 x3 f0 f2 f5 g0 g2 g4 g6 g8 g9 g10 g15 g16 zi_fu 0 f3 f4 g3 g7 g11 g12 g13 g14 g17).bind fun q47 => ((zf_M_passes g4).bind fun r48 => (rec (zi_w (x3 + 1)) q47.1 q47.2.1 q47.2.2.1 r48 q47.2.2.2.1 q47.2.2.2.2.1 q47.2.2.2.2.2.1 q47.2.2.2.2.2.2.1 q47.2.2.2.2.2.2.2.1 q47.2.2.2.2.2.2.2.2))) else (some (f3, f4, g3, g4, g7, g11, g12, g13, g14, g17))
def zf_M_log_l1 (x1 : Int) (f0 : Int) (f2 : Int) (f5 : Int) (g0 : (Int → Int)) (g2 : (Int → Int)) (g6 : (Int → Int)) (g8 : (Int → Int)) (g9 : (Int → Int)) (g10 : (Int → Int)) (g15 : (Int → Int)) (g16 : (Int → Int)) : Nat → Int → Int → Int → (Int → Int) → (Int → Int) → (Int → Int) → (Int → Int) → (Int → Int) → (Int → Int) → (Int → Int) → (Int → Int) → Option (Int × Int × (Int → Int) × (Int → Int) × (Int → Int) × (Int → Int) × (Int → Int) × (Int → Int) × (Int → Int) × (Int → Int))
  | 0, _, _, _, _, _, _, _, _, _, _, _ => none
  | n + 1, x3, f3, f4, g3, g4, g7, g11, g12, g13, g14, g17 => zf_M_log_l1_b x1 f0 f2 f5 g0 g2 g6 g8 g9 g10 g15 g16 (zf_M_log_l1 x1 f0 f2 f5 g0 g2 g6 g8 g9 g10 g15 g16 n) x3 f3 f4 g3 g4 g7 g11 g12 g13 g14 g17
def zf_M_log_l3_b (g3 : (Int → Int)) (rec : Int → Int → Int → Option (Int × Int)) (x3 : Int) (x4 : Int) (x5 : Int) : Option (Int × Int) := if x5 < 288 then (cond (zi_ix x5 288) (if (g3 x5) = (-1) then (rec x3 x4 (zi_w (x5 + 1))) else (if x3 = 0 then (rec (zi_w (x3 + 1)) x5 (zi_w (x5 + 1))) else (rec (zi_w (x3 + 1)) x4 (zi_w (x5 + 1))))) none) else (some (x3, x4))
def zf_M_log_l3 (g3 : (Int → Int)) : Nat → Int → Int → Int → Option (Int × Int)
  | 0, _, _, _ => none
  | n + 1, x3, x4, x5 => zf_M_log_l3_b g3 (zf_M_log_l3 g3 n) x3 x4 x5
def zf_M_log (x1 : Int) (x2 : Int) (f0 : Int) (f1 : Int) (f2 : Int) (f3 : Int) (f4 : Int) (f5 : Int) (g0 : (Int → Int)) (g1 : (Int → Int)) (g2 : (Int → Int)) (g3 : (Int → Int)) (g4 : (Int → Int)) (g5 : (Int → Int)) (g6 : (Int → Int)) (g7 : (Int → Int)) (g8 : (Int → Int)) (g9 : (Int → Int)) (g10 : (Int → Int)) (g11 : (Int → Int)) (g12 : (Int → Int)) (g13 : (Int → Int)) (g14 : (Int → Int)) (g15 : (Int → Int)) (g16 : (Int → Int)) (g17 : (Int → Int)) : Option (Int × Int × Int × Int × (Int → Int) × (Int → Int) × (Int → Int) × (Int → Int) × (Int → Int) × (Int → Int) × (Int → Int) × (Int → Int) × (Int → Int) × (Int → Int) × (Int → Int)) := (zf_M_in x1 1 12).bind fun r1 => (if r1 = 0 then (some ((-1), f1, f3, f4, g0, g2, g3, g4, g5, g7, g11, g12, g13, g14, g17)) else ((zf_M_in x2 0 1).bind fun r3 => (if r3 = 0 then (some ((-1), f1, f3, f4, g0, g2, g3, g4, g5, g7, g11, g12, g13, g14, g17)) else (if f0 = 0 then (some ((-1), f1, f3, f4, g0, g2, g3, g4, g5, g7, g11, g12, g13, g14, g17)) else (if f1 < (zi_w (2 * x1)) then (some ((-1), f1, f3, f4, g0, g2, g3, g4, g5, g7, g11, g12, g13, g14, g17)) else ((zf_M_takesLog x1 g0 g1 g2).bind fun r7 => (if r7.1 = 0 then (some ((-2), 0, f3, f4, r7.2.1, r7.2.2, g3, g4, g5, g7, g11, g12, g13, g14, g17)) else ((zf_M_log_l0 g4 zi_fu 0 g3).bind fun q14 => ((zf_M_begins g4 g5).bind fun r15 => ((zf_M_log_l1 x1 f0 f2 f5 r7.2.1 r7.2.2 g6 g8 g9 g10 g15 g16 zi_fu 0 f3 f4 q14 g4 g7 g11 g12 g13 g14 g17).bind fun q49 => ((zf_M_again r15 q49.2.2.2.1).bind fun r50 => ((zf_M_log_l3 q49.2.2.1 zi_fu 0 (-2) 0).bind fun q55 => (if x2 = 0 then (some (q55.1, 0, q49.1, q49.2.1, r7.2.1, r7.2.2, q49.2.2.1, r50, r15, q49.2.2.2.2.1, q49.2.2.2.2.2.1, q49.2.2.2.2.2.2.1, q49.2.2.2.2.2.2.2.1, q49.2.2.2.2.2.2.2.2.1, q49.2.2.2.2.2.2.2.2.2)) else (some (q55.2, 0, q49.1, q49.2.1, r7.2.1, r7.2.2, q49.2.2.1, r50, r15, q49.2.2.2.2.1, q49.2.2.2.2.2.1, q49.2.2.2.2.2.2.1, q49.2.2.2.2.2.2.2.1, q49.2.2.2.2.2.2.2.2.1, q49.2.2.2.2.2.2.2.2.2)))))))))))))))
theorem zd314_0 : decode zxm314.2.1 0 = .ok (.iload_n 1, 1) := by decide +kernel
theorem zd314_1 : decode zxm314.2.1 1 = .ok (.iconst 1, 1) := by decide +kernel
theorem zd314_2 : decode zxm314.2.1 2 = .ok (.bipush 12, 2) := by decide +kernel
theorem zd314_4 : decode zxm314.2.1 4 = .ok (.invokestatic 150, 3) := by decide +kernel
theorem zd314_7 : decode zxm314.2.1 7 = .ok (.ifCond .eq 29, 3) := by decide +kernel
theorem zd314_10 : decode zxm314.2.1 10 = .ok (.iload_n 2, 1) := by decide +kernel
theorem zd314_11 : decode zxm314.2.1 11 = .ok (.iconst 0, 1) := by decide +kernel
theorem zd314_12 : decode zxm314.2.1 12 = .ok (.iconst 1, 1) := by decide +kernel
theorem zd314_13 : decode zxm314.2.1 13 = .ok (.invokestatic 150, 3) := by decide +kernel
theorem zd314_16 : decode zxm314.2.1 16 = .ok (.ifCond .eq 20, 3) := by decide +kernel
theorem zd314_19 : decode zxm314.2.1 19 = .ok (.aload_n 0, 1) := by decide +kernel
theorem zd314_20 : decode zxm314.2.1 20 = .ok (.getfield 351, 3) := by decide +kernel
theorem zd314_23 : decode zxm314.2.1 23 = .ok (.ifCond .eq 13, 3) := by decide +kernel
theorem zd314_26 : decode zxm314.2.1 26 = .ok (.iconst 2, 1) := by decide +kernel
theorem zd314_27 : decode zxm314.2.1 27 = .ok (.iload_n 1, 1) := by decide +kernel
theorem zd314_28 : decode zxm314.2.1 28 = .ok (.imul, 1) := by decide +kernel
theorem zd314_29 : decode zxm314.2.1 29 = .ok (.aload_n 0, 1) := by decide +kernel
theorem zd314_30 : decode zxm314.2.1 30 = .ok (.getfield 168, 3) := by decide +kernel
theorem zd314_33 : decode zxm314.2.1 33 = .ok (.if_icmp .le 5, 3) := by decide +kernel
theorem zd314_36 : decode zxm314.2.1 36 = .ok (.iconst (-1), 1) := by decide +kernel
theorem zd314_37 : decode zxm314.2.1 37 = .ok (.ireturn, 1) := by decide +kernel
theorem zd314_38 : decode zxm314.2.1 38 = .ok (.aload_n 0, 1) := by decide +kernel
theorem zd314_39 : decode zxm314.2.1 39 = .ok (.iconst 0, 1) := by decide +kernel
theorem zd314_40 : decode zxm314.2.1 40 = .ok (.putfield 168, 3) := by decide +kernel
theorem zd314_43 : decode zxm314.2.1 43 = .ok (.aload_n 0, 1) := by decide +kernel
theorem zd314_44 : decode zxm314.2.1 44 = .ok (.iload_n 1, 1) := by decide +kernel
theorem zd314_45 : decode zxm314.2.1 45 = .ok (.invokevirtual 475, 3) := by decide +kernel
theorem zd314_48 : decode zxm314.2.1 48 = .ok (.ifCond .ne 6, 3) := by decide +kernel
theorem zd314_51 : decode zxm314.2.1 51 = .ok (.bipush (-2), 2) := by decide +kernel
theorem zd314_53 : decode zxm314.2.1 53 = .ok (.ireturn, 1) := by decide +kernel
theorem zd314_54 : decode zxm314.2.1 54 = .ok (.iconst 0, 1) := by decide +kernel
theorem zd314_55 : decode zxm314.2.1 55 = .ok (.istore_n 3, 1) := by decide +kernel
theorem zd314_56 : decode zxm314.2.1 56 = .ok (.iload_n 3, 1) := by decide +kernel
theorem zd314_57 : decode zxm314.2.1 57 = .ok (.sipush 288, 3) := by decide +kernel
theorem zd314_60 : decode zxm314.2.1 60 = .ok (.if_icmp .ge 28, 3) := by decide +kernel
theorem zd314_63 : decode zxm314.2.1 63 = .ok (.aload_n 0, 1) := by decide +kernel
theorem zd314_64 : decode zxm314.2.1 64 = .ok (.getfield 131, 3) := by decide +kernel
theorem zd314_67 : decode zxm314.2.1 67 = .ok (.iload_n 3, 1) := by decide +kernel
theorem zd314_68 : decode zxm314.2.1 68 = .ok (.aload_n 0, 1) := by decide +kernel
theorem zd314_69 : decode zxm314.2.1 69 = .ok (.iload_n 3, 1) := by decide +kernel
theorem zd314_70 : decode zxm314.2.1 70 = .ok (.invokevirtual 165, 3) := by decide +kernel
theorem zd314_73 : decode zxm314.2.1 73 = .ok (.ifCond .eq 7, 3) := by decide +kernel
theorem zd314_76 : decode zxm314.2.1 76 = .ok (.iconst (-1), 1) := by decide +kernel
theorem zd314_77 : decode zxm314.2.1 77 = .ok (.goto 4, 3) := by decide +kernel
theorem zd314_80 : decode zxm314.2.1 80 = .ok (.iload_n 3, 1) := by decide +kernel
theorem zd314_81 : decode zxm314.2.1 81 = .ok (.iastore, 1) := by decide +kernel
theorem zd314_82 : decode zxm314.2.1 82 = .ok (.iinc 3 1, 3) := by decide +kernel
theorem zd314_85 : decode zxm314.2.1 85 = .ok (.goto (-29), 3) := by decide +kernel
theorem zd314_88 : decode zxm314.2.1 88 = .ok (.aload_n 0, 1) := by decide +kernel
theorem zd314_89 : decode zxm314.2.1 89 = .ok (.invokevirtual 434, 3) := by decide +kernel
theorem zd314_92 : decode zxm314.2.1 92 = .ok (.iconst 0, 1) := by decide +kernel
theorem zd314_93 : decode zxm314.2.1 93 = .ok (.istore_n 3, 1) := by decide +kernel
theorem zd314_94 : decode zxm314.2.1 94 = .ok (.iload_n 3, 1) := by decide +kernel
theorem zd314_95 : decode zxm314.2.1 95 = .ok (.iload_n 1, 1) := by decide +kernel
theorem zd314_96 : decode zxm314.2.1 96 = .ok (.if_icmp .ge 147, 3) := by decide +kernel
theorem zd314_99 : decode zxm314.2.1 99 = .ok (.iconst 0, 1) := by decide +kernel
theorem zd314_100 : decode zxm314.2.1 100 = .ok (.istore 4, 2) := by decide +kernel
theorem zd314_102 : decode zxm314.2.1 102 = .ok (.iload 4, 2) := by decide +kernel
theorem zd314_104 : decode zxm314.2.1 104 = .ok (.sipush 288, 3) := by decide +kernel
theorem zd314_107 : decode zxm314.2.1 107 = .ok (.if_icmp .ge 126, 3) := by decide +kernel
theorem zd314_110 : decode zxm314.2.1 110 = .ok (.aload_n 0, 1) := by decide +kernel
theorem zd314_111 : decode zxm314.2.1 111 = .ok (.getfield 131, 3) := by decide +kernel
theorem zd314_114 : decode zxm314.2.1 114 = .ok (.iload 4, 2) := by decide +kernel
theorem zd314_116 : decode zxm314.2.1 116 = .ok (.iaload, 1) := by decide +kernel
theorem zd314_117 : decode zxm314.2.1 117 = .ok (.iconst (-1), 1) := by decide +kernel
theorem zd314_118 : decode zxm314.2.1 118 = .ok (.if_icmp .ne 6, 3) := by decide +kernel
theorem zd314_121 : decode zxm314.2.1 121 = .ok (.goto 106, 3) := by decide +kernel
theorem zd314_124 : decode zxm314.2.1 124 = .ok (.aload_n 0, 1) := by decide +kernel
theorem zd314_125 : decode zxm314.2.1 125 = .ok (.aload_n 0, 1) := by decide +kernel
theorem zd314_126 : decode zxm314.2.1 126 = .ok (.getfield 131, 3) := by decide +kernel
theorem zd314_129 : decode zxm314.2.1 129 = .ok (.iload 4, 2) := by decide +kernel
theorem zd314_131 : decode zxm314.2.1 131 = .ok (.iaload, 1) := by decide +kernel
theorem zd314_132 : decode zxm314.2.1 132 = .ok (.invokevirtual 369, 3) := by decide +kernel
theorem zd314_135 : decode zxm314.2.1 135 = .ok (.aload_n 0, 1) := by decide +kernel
theorem zd314_136 : decode zxm314.2.1 136 = .ok (.getfield 125, 3) := by decide +kernel
theorem zd314_139 : decode zxm314.2.1 139 = .ok (.iload_n 3, 1) := by decide +kernel
theorem zd314_140 : decode zxm314.2.1 140 = .ok (.iaload, 1) := by decide +kernel
theorem zd314_141 : decode zxm314.2.1 141 = .ok (.iconst 1, 1) := by decide +kernel
theorem zd314_142 : decode zxm314.2.1 142 = .ok (.if_icmp .ne 7, 3) := by decide +kernel
theorem zd314_145 : decode zxm314.2.1 145 = .ok (.iconst 1, 1) := by decide +kernel
theorem zd314_146 : decode zxm314.2.1 146 = .ok (.goto 4, 3) := by decide +kernel
theorem zd314_149 : decode zxm314.2.1 149 = .ok (.iconst 0, 1) := by decide +kernel
theorem zd314_150 : decode zxm314.2.1 150 = .ok (.if_icmp .eq 14, 3) := by decide +kernel
theorem zd314_153 : decode zxm314.2.1 153 = .ok (.aload_n 0, 1) := by decide +kernel
theorem zd314_154 : decode zxm314.2.1 154 = .ok (.getfield 131, 3) := by decide +kernel
theorem zd314_157 : decode zxm314.2.1 157 = .ok (.iload 4, 2) := by decide +kernel
theorem zd314_159 : decode zxm314.2.1 159 = .ok (.iconst (-1), 1) := by decide +kernel
theorem zd314_160 : decode zxm314.2.1 160 = .ok (.iastore, 1) := by decide +kernel
theorem zd314_161 : decode zxm314.2.1 161 = .ok (.goto 33, 3) := by decide +kernel
theorem zd314_164 : decode zxm314.2.1 164 = .ok (.iload_n 3, 1) := by decide +kernel
theorem zd314_165 : decode zxm314.2.1 165 = .ok (.iconst 1, 1) := by decide +kernel
theorem zd314_166 : decode zxm314.2.1 166 = .ok (.iadd, 1) := by decide +kernel
theorem zd314_167 : decode zxm314.2.1 167 = .ok (.iload_n 1, 1) := by decide +kernel
theorem zd314_168 : decode zxm314.2.1 168 = .ok (.if_icmp .ge 26, 3) := by decide +kernel
theorem zd314_171 : decode zxm314.2.1 171 = .ok (.aload_n 0, 1) := by decide +kernel
theorem zd314_172 : decode zxm314.2.1 172 = .ok (.getfield 131, 3) := by decide +kernel
theorem zd314_175 : decode zxm314.2.1 175 = .ok (.iload 4, 2) := by decide +kernel
theorem zd314_177 : decode zxm314.2.1 177 = .ok (.aload_n 0, 1) := by decide +kernel
theorem zd314_178 : decode zxm314.2.1 178 = .ok (.getfield 131, 3) := by decide +kernel
theorem zd314_181 : decode zxm314.2.1 181 = .ok (.iload 4, 2) := by decide +kernel
theorem zd314_183 : decode zxm314.2.1 183 = .ok (.iaload, 1) := by decide +kernel
theorem zd314_184 : decode zxm314.2.1 184 = .ok (.aload_n 0, 1) := by decide +kernel
theorem zd314_185 : decode zxm314.2.1 185 = .ok (.getfield 128, 3) := by decide +kernel
theorem zd314_188 : decode zxm314.2.1 188 = .ok (.iload_n 3, 1) := by decide +kernel
theorem zd314_189 : decode zxm314.2.1 189 = .ok (.iaload, 1) := by decide +kernel
theorem zd314_190 : decode zxm314.2.1 190 = .ok (.invokestatic 440, 3) := by decide +kernel
theorem zd314_193 : decode zxm314.2.1 193 = .ok (.iastore, 1) := by decide +kernel
theorem zd314_194 : decode zxm314.2.1 194 = .ok (.aload_n 0, 1) := by decide +kernel
theorem zd314_195 : decode zxm314.2.1 195 = .ok (.getfield 131, 3) := by decide +kernel
theorem zd314_198 : decode zxm314.2.1 198 = .ok (.iload 4, 2) := by decide +kernel
theorem zd314_200 : decode zxm314.2.1 200 = .ok (.iaload, 1) := by decide +kernel
theorem zd314_201 : decode zxm314.2.1 201 = .ok (.iconst (-1), 1) := by decide +kernel
theorem zd314_202 : decode zxm314.2.1 202 = .ok (.if_icmp .eq 25, 3) := by decide +kernel
theorem zd314_205 : decode zxm314.2.1 205 = .ok (.aload_n 0, 1) := by decide +kernel
theorem zd314_206 : decode zxm314.2.1 206 = .ok (.aload_n 0, 1) := by decide +kernel
theorem zd314_207 : decode zxm314.2.1 207 = .ok (.getfield 131, 3) := by decide +kernel
theorem zd314_210 : decode zxm314.2.1 210 = .ok (.iload 4, 2) := by decide +kernel
theorem zd314_212 : decode zxm314.2.1 212 = .ok (.iaload, 1) := by decide +kernel
theorem zd314_213 : decode zxm314.2.1 213 = .ok (.invokevirtual 165, 3) := by decide +kernel
theorem zd314_216 : decode zxm314.2.1 216 = .ok (.ifCond .eq 11, 3) := by decide +kernel
theorem zd314_219 : decode zxm314.2.1 219 = .ok (.aload_n 0, 1) := by decide +kernel
theorem zd314_220 : decode zxm314.2.1 220 = .ok (.getfield 131, 3) := by decide +kernel
theorem zd314_223 : decode zxm314.2.1 223 = .ok (.iload 4, 2) := by decide +kernel
theorem zd314_225 : decode zxm314.2.1 225 = .ok (.iconst (-1), 1) := by decide +kernel
theorem zd314_226 : decode zxm314.2.1 226 = .ok (.iastore, 1) := by decide +kernel
theorem zd314_227 : decode zxm314.2.1 227 = .ok (.iinc 4 1, 3) := by decide +kernel
theorem zd314_230 : decode zxm314.2.1 230 = .ok (.goto (-128), 3) := by decide +kernel
theorem zd314_233 : decode zxm314.2.1 233 = .ok (.aload_n 0, 1) := by decide +kernel
theorem zd314_234 : decode zxm314.2.1 234 = .ok (.invokevirtual 427, 3) := by decide +kernel
theorem zd314_237 : decode zxm314.2.1 237 = .ok (.iinc 3 1, 3) := by decide +kernel
theorem zd314_240 : decode zxm314.2.1 240 = .ok (.goto (-146), 3) := by decide +kernel
theorem zd314_243 : decode zxm314.2.1 243 = .ok (.aload_n 0, 1) := by decide +kernel
theorem zd314_244 : decode zxm314.2.1 244 = .ok (.invokevirtual 437, 3) := by decide +kernel
theorem zd314_247 : decode zxm314.2.1 247 = .ok (.iconst 0, 1) := by decide +kernel
theorem zd314_248 : decode zxm314.2.1 248 = .ok (.istore_n 3, 1) := by decide +kernel
theorem zd314_249 : decode zxm314.2.1 249 = .ok (.bipush (-2), 2) := by decide +kernel
theorem zd314_251 : decode zxm314.2.1 251 = .ok (.istore 4, 2) := by decide +kernel
theorem zd314_253 : decode zxm314.2.1 253 = .ok (.iconst 0, 1) := by decide +kernel
theorem zd314_254 : decode zxm314.2.1 254 = .ok (.istore 5, 2) := by decide +kernel
theorem zd314_256 : decode zxm314.2.1 256 = .ok (.iload 5, 2) := by decide +kernel
theorem zd314_258 : decode zxm314.2.1 258 = .ok (.sipush 288, 3) := by decide +kernel
theorem zd314_261 : decode zxm314.2.1 261 = .ok (.if_icmp .ge 40, 3) := by decide +kernel
theorem zd314_264 : decode zxm314.2.1 264 = .ok (.aload_n 0, 1) := by decide +kernel
theorem zd314_265 : decode zxm314.2.1 265 = .ok (.getfield 131, 3) := by decide +kernel
theorem zd314_268 : decode zxm314.2.1 268 = .ok (.iload 5, 2) := by decide +kernel
theorem zd314_270 : decode zxm314.2.1 270 = .ok (.iaload, 1) := by decide +kernel
theorem zd314_271 : decode zxm314.2.1 271 = .ok (.iconst (-1), 1) := by decide +kernel
theorem zd314_272 : decode zxm314.2.1 272 = .ok (.if_icmp .ne 6, 3) := by decide +kernel
theorem zd314_275 : decode zxm314.2.1 275 = .ok (.goto 20, 3) := by decide +kernel
theorem zd314_278 : decode zxm314.2.1 278 = .ok (.iload_n 3, 1) := by decide +kernel
theorem zd314_279 : decode zxm314.2.1 279 = .ok (.ifCond .ne 8, 3) := by decide +kernel
theorem zd314_282 : decode zxm314.2.1 282 = .ok (.iload 5, 2) := by decide +kernel
theorem zd314_284 : decode zxm314.2.1 284 = .ok (.goto 5, 3) := by decide +kernel
theorem zd314_287 : decode zxm314.2.1 287 = .ok (.iload 4, 2) := by decide +kernel
theorem zd314_289 : decode zxm314.2.1 289 = .ok (.istore 4, 2) := by decide +kernel
theorem zd314_291 : decode zxm314.2.1 291 = .ok (.iload_n 3, 1) := by decide +kernel
theorem zd314_292 : decode zxm314.2.1 292 = .ok (.iconst 1, 1) := by decide +kernel
theorem zd314_293 : decode zxm314.2.1 293 = .ok (.iadd, 1) := by decide +kernel
theorem zd314_294 : decode zxm314.2.1 294 = .ok (.istore_n 3, 1) := by decide +kernel
theorem zd314_295 : decode zxm314.2.1 295 = .ok (.iinc 5 1, 3) := by decide +kernel
theorem zd314_298 : decode zxm314.2.1 298 = .ok (.goto (-42), 3) := by decide +kernel
theorem zd314_301 : decode zxm314.2.1 301 = .ok (.iload_n 2, 1) := by decide +kernel
theorem zd314_302 : decode zxm314.2.1 302 = .ok (.ifCond .ne 7, 3) := by decide +kernel
theorem zd314_305 : decode zxm314.2.1 305 = .ok (.iload_n 3, 1) := by decide +kernel
theorem zd314_306 : decode zxm314.2.1 306 = .ok (.goto 5, 3) := by decide +kernel
theorem zd314_309 : decode zxm314.2.1 309 = .ok (.iload 4, 2) := by decide +kernel
theorem zd314_311 : decode zxm314.2.1 311 = .ok (.ireturn, 1) := by decide +kernel
theorem zt_M_log {x1 : Int} {x2 : Int} {f0 : Int} {f1 : Int} {f2 : Int} {f3 : Int} {f4 : Int} {f5 : Int} {g0 : (Int → Int)} {g1 : (Int → Int)} {g2 : (Int → Int)} {g3 : (Int → Int)} {g4 : (Int → Int)} {g5 : (Int → Int)} {g6 : (Int → Int)} {g7 : (Int → Int)} {g8 : (Int → Int)} {g9 : (Int → Int)} {g10 : (Int → Int)} {g11 : (Int → Int)} {g12 : (Int → Int)} {g13 : (Int → Int)} {g14 : (Int → Int)} {g15 : (Int → Int)} {g16 : (Int → Int)} {g17 : (Int → Int)} {o : Int × Int × Int × Int × (Int → Int) × (Int → Int) × (Int → Int) × (Int → Int) × (Int → Int) × (Int → Int) × (Int → Int) × (Int → Int) × (Int → Int) × (Int → Int) × (Int → Int)} (h : zf_M_log x1 x2 f0 f1 f2 f3 f4 f5 g0 g1 g2 g3 g4 g5 g6 g7 g8 g9 g10 g11 g12 g13 g14 g15 g16 g17 = some o) : zv_Fn z_TB z_cl z_KX zy_M_log zxm314 (7, 420) [.inr 0, .inl x1, .inl x2] [.inl f0, .inl f1, .inl f2, .inl f3, .inl f4, .inl f5] [g0, g1, g2, g3, g4, g5, g6, g7, g8, g9, g10, g11, g12, g13, g14, g15, g16, g17] (some o.1) [.inl f0, .inl o.2.1, .inl f2, .inl o.2.2.1, .inl o.2.2.2.1, .inl f5] [o.2.2.2.2.1, g1, o.2.2.2.2.2.1, o.2.2.2.2.2.2.1, o.2.2.2.2.2.2.2.1, o.2.2.2.2.2.2.2.2.1, g6, o.2.2.2.2.2.2.2.2.2.1, g8, g9, g10, o.2.2.2.2.2.2.2.2.2.2.1, o.2.2.2.2.2.2.2.2.2.2.2.1, o.2.2.2.2.2.2.2.2.2.2.2.2.1, o.2.2.2.2.2.2.2.2.2.2.2.2.2.1, g15, g16, o.2.2.2.2.2.2.2.2.2.2.2.2.2.2] := zv_meth (K := (z_KF13, z_KC13, z_KL13, z_KT13, [], [], [], none)) (FT := z_FT) (MT := z_MT) (n := 3) zxp314 (z_ks13 _ (fun _ h => List.mem_cons_of_mem _ h) _ _ _ _ (fun j r h _ => by cases h)) (fun _ _ => zs_KX_p) zyw_M_log (fun va F G h => by obtain ⟨rfl, _⟩ := h; rfl) (fun va F G h => by obtain ⟨rfl, _⟩ := h; rfl) rfl fun good va F G hB hret hvret hP => by
  obtain ⟨rfl, rfl, rfl⟩ := hP
  have l0 : ∀ (n : Nat) (x1 : Int) (x2 : Int) (x3 : Int) (f1 : Int) (f3 : Int) (f4 : Int) (g0 : (Int → Int)) (g2 : (Int → Int)) (g3 : (Int → Int)) (g4 : (Int → Int)) (g5 : (Int → Int)) (g7 : (Int → Int)) (g11 : (Int → Int)) (g12 : (Int → Int)) (g13 : (Int → Int)) (g14 : (Int → Int)) (g17 : (Int → Int)) (q : (Int → Int)), zf_M_log_l0 g4 n x3 g3 = some q → (good 88 [.inr 0, .inl x1, .inl x2, .inr 1000, .inr 1000, .inr 1000] [] [.inl f0, .inl f1, .inl f2, .inl f3, .inl f4, .inl f5] [g0, g1, g2, q, g4, g5, g6, g7, g8, g9, g10, g11, g12, g13, g14, g15, g16, g17]) → good 56 [.inr 0, .inl x1, .inl x2, .inl x3, .inr 1000, .inr 1000] [] [.inl f0, .inl f1, .inl f2, .inl f3, .inl f4, .inl f5] [g0, g1, g2, g3, g4, g5, g6, g7, g8, g9, g10, g11, g12, g13, g14, g15, g16, g17] := by
    intro n
    induction n with
    | zero => intro x1 x2 x3 f1 f3 f4 g0 g2 g3 g4 g5 g7 g11 g12 g13 g14 g17 q h; exact absurd (show none = some q from h) (fun h => by cases h)
    | succ n ih =>
      intro x1 x2 x3 f1 f3 f4 g0 g2 g3 g4 g5 g7 g11 g12 g13 g14 g17 q h hK
      replace h : zf_M_log_l0_b g4 (zf_M_log_l0 g4 n) x3 g3 = some q := h
      unfold zf_M_log_l0_b at h
      refine zv_ild hB zd314_56 rfl rfl ?_
      refine zv_con hB zd314_57 rfl ?_
      refine zv_cge hB zd314_60 rfl (fun hc9 => ?_) (fun hc9 => ?_)
      · rw [if_neg (Int.not_lt.mpr hc9)] at h
        have hq := Option.some.inj h
        subst hq
        refine zv_wk hB (L' := [.inr 0, .inl x1, .inl x2, .inr 1000, .inr 1000, .inr 1000]) (F' := [.inl f0, .inl f1, .inl f2, .inl f3, .inl f4, .inl f5]) ⟨fun _ => rfl, fun _ => rfl, fun _ => rfl, fun (h : zv_is (.inr 1000)) => (Nat.lt_irrefl 1000 h).elim, fun (h : zv_is (.inr 1000)) => (Nat.lt_irrefl 1000 h).elim, fun (h : zv_is (.inr 1000)) => (Nat.lt_irrefl 1000 h).elim, trivial⟩ ⟨fun _ => rfl, fun _ => rfl, fun _ => rfl, fun _ => rfl, fun _ => rfl, fun _ => rfl, trivial⟩ ?_
        exact hK
      · rw [if_pos hc9] at h
        refine zv_ald hB zd314_63 rfl rfl rfl ?_
        refine zv_getr hB zd314_64 rfl ?_
        refine zv_ild hB zd314_67 rfl rfl ?_
        refine zv_ald hB zd314_68 rfl rfl rfl ?_
        refine zv_ild hB zd314_69 rfl rfl ?_
        obtain ⟨r10, hr10, h⟩ := zi_bind h
        refine zv_cv hB (zv_emq (va2 := [.inr 0, .inl x3]) (F := [.inl f0, .inl f1, .inl f2, .inl f3, .inl f4, .inl f5]) (F' := [.inl f0, .inl f1, .inl f2, .inl f3, .inl f4, .inl f5]) (G := [g0, g1, g2, g3, g4, g5, g6, g7, g8, g9, g10, g11, g12, g13, g14, g15, g16, g17]) (G' := [g0, g1, g2, g3, g4, g5, g6, g7, g8, g9, g10, g11, g12, g13, g14, g15, g16, g17]) (ρ := [0, 5]) (φ := []) (ψ := [4]) [none, none, none, none, none, none] [none, none, none, none, some 0, none, none, none, none, none, none, none, none, none, none, none, none, none] zyw_M_isLand zyw_M_log zye_M_log (by decide +kernel) (zt_M_isLand hr10) trivial ⟨rfl, trivial⟩ rfl rfl rfl rfl rfl rfl rfl) zd314_70 zxt212 rfl (by decide) (by decide) rfl ?_
        refine zv_zeq hB zd314_73 rfl (fun hc11 => ?_) (fun hc11 => ?_)
        · rw [if_pos hc11] at h
          refine zv_ild hB zd314_80 rfl rfl ?_
          obtain ⟨c12, h⟩ := zi_if h
          refine zv_iast hB zd314_81 rfl rfl (zi_ix_ok c12).1 (zi_ix_ok c12).2 ?_
          refine zv_iincw hB zd314_82 rfl rfl ?_
          refine zv_goto hB zd314_85 rfl ?_
          exact ih _ _ _ _ _ _ _ _ _ _ _ _ _ _ _ _ _ q h hK
        · rw [if_neg hc11] at h
          refine zv_con hB zd314_76 rfl ?_
          refine zv_goto hB zd314_77 rfl ?_
          obtain ⟨c13, h⟩ := zi_if h
          refine zv_iast hB zd314_81 rfl rfl (zi_ix_ok c13).1 (zi_ix_ok c13).2 ?_
          refine zv_iincw hB zd314_82 rfl rfl ?_
          refine zv_goto hB zd314_85 rfl ?_
          exact ih _ _ _ _ _ _ _ _ _ _ _ _ _ _ _ _ _ q h hK
  have l2 : ∀ (n : Nat) (x1 : Int) (x2 : Int) (x3 : Int) (x4 : Int) (f1 : Int) (f3 : Int) (f4 : Int) (g0 : (Int → Int)) (g2 : (Int → Int)) (g3 : (Int → Int)) (g4 : (Int → Int)) (g5 : (Int → Int)) (g7 : (Int → Int)) (g11 : (Int → Int)) (g12 : (Int → Int)) (g13 : (Int → Int)) (g14 : (Int → Int)) (g17 : (Int → Int)) (q : Int × Int × (Int → Int) × (Int → Int) × (Int → Int) × (Int → Int) × (Int → Int) × (Int → Int) × (Int → Int)), zf_M_log_l2 x1 x3 f0 f2 f5 g0 g2 g4 g6 g8 g9 g10 g15 g16 n x4 f3 f4 g3 g7 g11 g12 g13 g14 g17 = some q → (good 233 [.inr 0, .inl x1, .inl x2, .inl x3, .inr 1000, .inr 1000] [] [.inl f0, .inl f1, .inl f2, .inl q.1, .inl q.2.1, .inl f5] [g0, g1, g2, q.2.2.1, g4, g5, g6, q.2.2.2.1, g8, g9, g10, q.2.2.2.2.1, q.2.2.2.2.2.1, q.2.2.2.2.2.2.1, q.2.2.2.2.2.2.2.1, g15, g16, q.2.2.2.2.2.2.2.2]) → good 102 [.inr 0, .inl x1, .inl x2, .inl x3, .inl x4, .inr 1000] [] [.inl f0, .inl f1, .inl f2, .inl f3, .inl f4, .inl f5] [g0, g1, g2, g3, g4, g5, g6, g7, g8, g9, g10, g11, g12, g13, g14, g15, g16, g17] := by
    intro n
    induction n with
    | zero => intro x1 x2 x3 x4 f1 f3 f4 g0 g2 g3 g4 g5 g7 g11 g12 g13 g14 g17 q h; exact absurd (show none = some q from h) (fun h => by cases h)
    | succ n ih =>
      intro x1 x2 x3 x4 f1 f3 f4 g0 g2 g3 g4 g5 g7 g11 g12 g13 g14 g17 q h hK
      replace h : zf_M_log_l2_b x1 x3 f0 f2 f5 g0 g2 g4 g6 g8 g9 g10 g15 g16 (zf_M_log_l2 x1 x3 f0 f2 f5 g0 g2 g4 g6 g8 g9 g10 g15 g16 n) x4 f3 f4 g3 g7 g11 g12 g13 g14 g17 = some q := h
      unfold zf_M_log_l2_b at h
      refine zv_ild hB zd314_102 rfl rfl ?_
      refine zv_con hB zd314_104 rfl ?_
      refine zv_cge hB zd314_107 rfl (fun hc17 => ?_) (fun hc17 => ?_)
      · rw [if_neg (Int.not_lt.mpr hc17)] at h
        have hq := Option.some.inj h
        subst hq
        refine zv_wk hB (L' := [.inr 0, .inl x1, .inl x2, .inl x3, .inr 1000, .inr 1000]) (F' := [.inl f0, .inl f1, .inl f2, .inl f3, .inl f4, .inl f5]) ⟨fun _ => rfl, fun _ => rfl, fun _ => rfl, fun _ => rfl, fun (h : zv_is (.inr 1000)) => (Nat.lt_irrefl 1000 h).elim, fun (h : zv_is (.inr 1000)) => (Nat.lt_irrefl 1000 h).elim, trivial⟩ ⟨fun _ => rfl, fun _ => rfl, fun _ => rfl, fun _ => rfl, fun _ => rfl, fun _ => rfl, trivial⟩ ?_
        exact hK
      · rw [if_pos hc17] at h
        refine zv_ald hB zd314_110 rfl rfl rfl ?_
        refine zv_getr hB zd314_111 rfl ?_
        refine zv_ild hB zd314_114 rfl rfl ?_
        obtain ⟨c18, h⟩ := zi_if h
        refine zv_iald hB zd314_116 rfl rfl (zi_ix_ok c18).1 (zi_ix_ok c18).2 (fun _ _ => ?_)
        refine zv_con hB zd314_117 rfl ?_
        refine zv_cne hB zd314_118 rfl (fun hc19 => ?_) (fun hc19 => ?_)
        · rw [if_neg hc19] at h
          refine zv_ald hB zd314_124 rfl rfl rfl ?_
          refine zv_ald hB zd314_125 rfl rfl rfl ?_
          refine zv_getr hB zd314_126 rfl ?_
          refine zv_ild hB zd314_129 rfl rfl ?_
          refine zv_iald hB zd314_131 rfl rfl (zi_ix_ok c18).1 (zi_ix_ok c18).2 (fun _ _ => ?_)
          obtain ⟨r20, hr20, h⟩ := zi_bind h
          refine zv_cv hB (zv_emq (va2 := [.inr 0, .inl (g3 x4)]) (F := [.inl f0, .inl f1, .inl f2, .inl f3, .inl f4, .inl f5]) (F' := [.inl f0, .inl f1, .inl f2, .inl r20.2.1, .inl r20.2.2.1, .inl f5]) (G := [g0, g1, g2, g3, g4, g5, g6, g7, g8, g9, g10, g11, g12, g13, g14, g15, g16, g17]) (G' := [g0, g1, g2, g3, g4, g5, g6, r20.2.2.2.1, g8, g9, g10, r20.2.2.2.2.1, r20.2.2.2.2.2.1, r20.2.2.2.2.2.2.1, r20.2.2.2.2.2.2.2.1, g15, g16, r20.2.2.2.2.2.2.2.2]) (ρ := [0, 5, 7, 8, 9, 10, 11, 12, 13, 14, 15, 16, 17, 18]) (φ := [2, 3, 4, 5, 0]) (ψ := [4, 6, 7, 8, 9, 10, 11, 12, 13, 14, 15, 16, 17]) [some 4, none, some 0, some 1, some 2, some 3] [none, none, none, none, some 0, none, some 1, some 2, some 3, some 4, some 5, some 6, some 7, some 8, some 9, some 10, some 11, some 12] zyw_M_canBeTold zyw_M_log zye_M_log (by decide +kernel) (zt_M_canBeTold hr20) ⟨⟨_, rfl, fun _ => rfl⟩, ⟨_, rfl, fun _ => rfl⟩, ⟨_, rfl, fun _ => rfl⟩, ⟨_, rfl, fun _ => rfl⟩, ⟨_, rfl, fun _ => rfl⟩, trivial⟩ ⟨rfl, rfl, rfl, rfl, rfl, rfl, rfl, rfl, rfl, rfl, rfl, rfl, rfl, trivial⟩ rfl rfl rfl rfl rfl rfl rfl) zd314_132 zxt272 rfl (by decide) (by decide) rfl ?_
          refine zv_ald hB zd314_135 rfl rfl rfl ?_
          refine zv_getr hB zd314_136 rfl ?_
          refine zv_ild hB zd314_139 rfl rfl ?_
          obtain ⟨c21, h⟩ := zi_if h
          refine zv_iald hB zd314_140 rfl rfl (zi_ix_ok c21).1 (zi_ix_ok c21).2 (fun _ _ => ?_)
          refine zv_con hB zd314_141 rfl ?_
          refine zv_cne hB zd314_142 rfl (fun hc22 => ?_) (fun hc22 => ?_)
          · rw [if_neg hc22] at h
            refine zv_con hB zd314_149 rfl ?_
            refine zv_ceq hB zd314_150 rfl (fun hc23 => ?_) (fun hc23 => ?_)
            · rw [if_pos hc23] at h
              refine zv_ild hB zd314_164 rfl rfl ?_
              refine zv_con hB zd314_165 rfl ?_
              refine zv_addw hB zd314_166 ?_
              refine zv_ild hB zd314_167 rfl rfl ?_
              refine zv_cge hB zd314_168 rfl (fun hc24 => ?_) (fun hc24 => ?_)
              · rw [if_neg (Int.not_lt.mpr hc24)] at h
                refine zv_ald hB zd314_194 rfl rfl rfl ?_
                refine zv_getr hB zd314_195 rfl ?_
                refine zv_ild hB zd314_198 rfl rfl ?_
                refine zv_iald hB zd314_200 rfl rfl (zi_ix_ok c18).1 (zi_ix_ok c18).2 (fun _ _ => ?_)
                refine zv_con hB zd314_201 rfl ?_
                refine zv_ceq hB zd314_202 rfl (fun hc => absurd hc (by omega)) (fun _ => ?_)
                refine zv_ald hB zd314_205 rfl rfl rfl ?_
                refine zv_ald hB zd314_206 rfl rfl rfl ?_
                refine zv_getr hB zd314_207 rfl ?_
                refine zv_ild hB zd314_210 rfl rfl ?_
                refine zv_iald hB zd314_212 rfl rfl (zi_ix_ok c18).1 (zi_ix_ok c18).2 (fun _ _ => ?_)
                obtain ⟨r26, hr26, h⟩ := zi_bind h
                refine zv_cv hB (zv_emq (va2 := [.inr 0, .inl (g3 x4)]) (F := [.inl f0, .inl f1, .inl f2, .inl r20.2.1, .inl r20.2.2.1, .inl f5]) (F' := [.inl f0, .inl f1, .inl f2, .inl r20.2.1, .inl r20.2.2.1, .inl f5]) (G := [g0, g1, g2, g3, g4, g5, g6, r20.2.2.2.1, g8, g9, g10, r20.2.2.2.2.1, r20.2.2.2.2.2.1, r20.2.2.2.2.2.2.1, r20.2.2.2.2.2.2.2.1, g15, g16, r20.2.2.2.2.2.2.2.2]) (G' := [g0, g1, g2, g3, g4, g5, g6, r20.2.2.2.1, g8, g9, g10, r20.2.2.2.2.1, r20.2.2.2.2.2.1, r20.2.2.2.2.2.2.1, r20.2.2.2.2.2.2.2.1, g15, g16, r20.2.2.2.2.2.2.2.2]) (ρ := [0, 5]) (φ := []) (ψ := [4]) [none, none, none, none, none, none] [none, none, none, none, some 0, none, none, none, none, none, none, none, none, none, none, none, none, none] zyw_M_isLand zyw_M_log zye_M_log (by decide +kernel) (zt_M_isLand hr26) trivial ⟨rfl, trivial⟩ rfl rfl rfl rfl rfl rfl rfl) zd314_213 zxt212 rfl (by decide) (by decide) rfl ?_
                refine zv_zeq hB zd314_216 rfl (fun hc27 => ?_) (fun hc27 => ?_)
                · rw [if_pos hc27] at h
                  refine zv_iincw hB zd314_227 rfl rfl ?_
                  refine zv_goto hB zd314_230 rfl ?_
                  exact ih _ _ _ _ _ _ _ _ _ _ _ _ _ _ _ _ _ _ q h hK
                · rw [if_neg hc27] at h
                  refine zv_ald hB zd314_219 rfl rfl rfl ?_
                  refine zv_getr hB zd314_220 rfl ?_
                  refine zv_ild hB zd314_223 rfl rfl ?_
                  refine zv_con hB zd314_225 rfl ?_
                  refine zv_iast hB zd314_226 rfl rfl (zi_ix_ok c18).1 (zi_ix_ok c18).2 ?_
                  refine zv_iincw hB zd314_227 rfl rfl ?_
                  refine zv_goto hB zd314_230 rfl ?_
                  exact ih _ _ _ _ _ _ _ _ _ _ _ _ _ _ _ _ _ _ q h hK
              · rw [if_pos hc24] at h
                refine zv_ald hB zd314_171 rfl rfl rfl ?_
                refine zv_getr hB zd314_172 rfl ?_
                refine zv_ild hB zd314_175 rfl rfl ?_
                refine zv_ald hB zd314_177 rfl rfl rfl ?_
                refine zv_getr hB zd314_178 rfl ?_
                refine zv_ild hB zd314_181 rfl rfl ?_
                refine zv_iald hB zd314_183 rfl rfl (zi_ix_ok c18).1 (zi_ix_ok c18).2 (fun _ _ => ?_)
                refine zv_ald hB zd314_184 rfl rfl rfl ?_
                refine zv_getr hB zd314_185 rfl ?_
                refine zv_ild hB zd314_188 rfl rfl ?_
                refine zv_iald hB zd314_189 rfl rfl (zi_ix_ok c21).1 (zi_ix_ok c21).2 (fun _ _ => ?_)
                obtain ⟨r28, hr28, h⟩ := zi_bind h
                refine zv_cs hB (zv_emq (va2 := [.inl (g3 x4), .inl (g2 x3)]) (F := [.inl f0, .inl f1, .inl f2, .inl r20.2.1, .inl r20.2.2.1, .inl f5]) (F' := [.inl f0, .inl f1, .inl f2, .inl r20.2.1, .inl r20.2.2.1, .inl f5]) (G := [g0, g1, g2, g3, g4, g5, g6, r20.2.2.2.1, g8, g9, g10, r20.2.2.2.2.1, r20.2.2.2.2.2.1, r20.2.2.2.2.2.2.1, r20.2.2.2.2.2.2.2.1, g15, g16, r20.2.2.2.2.2.2.2.2]) (G' := [g0, g1, g2, g3, g4, g5, g6, r20.2.2.2.1, g8, g9, g10, r20.2.2.2.2.1, r20.2.2.2.2.2.1, r20.2.2.2.2.2.2.1, r20.2.2.2.2.2.2.2.1, g15, g16, r20.2.2.2.2.2.2.2.2]) (ρ := []) (φ := []) (ψ := []) [none, none, none, none, none, none] [none, none, none, none, none, none, none, none, none, none, none, none, none, none, none, none, none, none] zyw_M_goesTo zyw_M_log zye_M_log (by decide +kernel) (zt_M_goesTo hr28) trivial trivial rfl rfl rfl rfl rfl rfl rfl) zd314_190 zxt304 rfl (by decide) (by decide) rfl ?_
                refine zv_iast hB zd314_193 rfl rfl (zi_ix_ok c18).1 (zi_ix_ok c18).2 ?_
                refine zv_ald hB zd314_194 rfl rfl rfl ?_
                refine zv_getr hB zd314_195 rfl ?_
                refine zv_ild hB zd314_198 rfl rfl ?_
                refine zv_iald hB zd314_200 rfl rfl (zi_ix_ok c18).1 (zi_ix_ok c18).2 (fun _ _ => ?_)
                refine zv_con hB zd314_201 rfl ?_
                refine zv_ceq hB zd314_202 rfl (fun hc29 => ?_) (fun hc29 => ?_)
                · rw [if_pos hc29] at h
                  refine zv_iincw hB zd314_227 rfl rfl ?_
                  refine zv_goto hB zd314_230 rfl ?_
                  exact ih _ _ _ _ _ _ _ _ _ _ _ _ _ _ _ _ _ _ q h hK
                · rw [if_neg hc29] at h
                  refine zv_ald hB zd314_205 rfl rfl rfl ?_
                  refine zv_ald hB zd314_206 rfl rfl rfl ?_
                  refine zv_getr hB zd314_207 rfl ?_
                  refine zv_ild hB zd314_210 rfl rfl ?_
                  refine zv_iald hB zd314_212 rfl rfl (zi_ix_ok c18).1 (zi_ix_ok c18).2 (fun _ _ => ?_)
                  obtain ⟨r30, hr30, h⟩ := zi_bind h
                  refine zv_cv hB (zv_emq (va2 := [.inr 0, .inl ((zv_up g3 x4 r28) x4)]) (F := [.inl f0, .inl f1, .inl f2, .inl r20.2.1, .inl r20.2.2.1, .inl f5]) (F' := [.inl f0, .inl f1, .inl f2, .inl r20.2.1, .inl r20.2.2.1, .inl f5]) (G := [g0, g1, g2, (zv_up g3 x4 r28), g4, g5, g6, r20.2.2.2.1, g8, g9, g10, r20.2.2.2.2.1, r20.2.2.2.2.2.1, r20.2.2.2.2.2.2.1, r20.2.2.2.2.2.2.2.1, g15, g16, r20.2.2.2.2.2.2.2.2]) (G' := [g0, g1, g2, (zv_up g3 x4 r28), g4, g5, g6, r20.2.2.2.1, g8, g9, g10, r20.2.2.2.2.1, r20.2.2.2.2.2.1, r20.2.2.2.2.2.2.1, r20.2.2.2.2.2.2.2.1, g15, g16, r20.2.2.2.2.2.2.2.2]) (ρ := [0, 5]) (φ := []) (ψ := [4]) [none, none, none, none, none, none] [none, none, none, none, some 0, none, none, none, none, none, none, none, none, none, none, none, none, none] zyw_M_isLand zyw_M_log zye_M_log (by decide +kernel) (zt_M_isLand hr30) trivial ⟨rfl, trivial⟩ rfl rfl rfl rfl rfl rfl rfl) zd314_213 zxt212 rfl (by decide) (by decide) rfl ?_
                  refine zv_zeq hB zd314_216 rfl (fun hc31 => ?_) (fun hc31 => ?_)
                  · rw [if_pos hc31] at h
                    refine zv_iincw hB zd314_227 rfl rfl ?_
                    refine zv_goto hB zd314_230 rfl ?_
                    exact ih _ _ _ _ _ _ _ _ _ _ _ _ _ _ _ _ _ _ q h hK
                  · rw [if_neg hc31] at h
                    refine zv_ald hB zd314_219 rfl rfl rfl ?_
                    refine zv_getr hB zd314_220 rfl ?_
                    refine zv_ild hB zd314_223 rfl rfl ?_
                    refine zv_con hB zd314_225 rfl ?_
                    refine zv_iast hB zd314_226 rfl rfl (zi_ix_ok c18).1 (zi_ix_ok c18).2 ?_
                    refine zv_iincw hB zd314_227 rfl rfl ?_
                    refine zv_goto hB zd314_230 rfl ?_
                    exact ih _ _ _ _ _ _ _ _ _ _ _ _ _ _ _ _ _ _ q h hK
            · rw [if_neg hc23] at h
              refine zv_ald hB zd314_153 rfl rfl rfl ?_
              refine zv_getr hB zd314_154 rfl ?_
              refine zv_ild hB zd314_157 rfl rfl ?_
              refine zv_con hB zd314_159 rfl ?_
              refine zv_iast hB zd314_160 rfl rfl (zi_ix_ok c18).1 (zi_ix_ok c18).2 ?_
              refine zv_goto hB zd314_161 rfl ?_
              refine zv_ald hB zd314_194 rfl rfl rfl ?_
              refine zv_getr hB zd314_195 rfl ?_
              refine zv_ild hB zd314_198 rfl rfl ?_
              refine zv_iald hB zd314_200 rfl rfl (zi_ix_ok c18).1 (zi_ix_ok c18).2 (fun _ _ => ?_)
              refine zv_con hB zd314_201 rfl ?_
              refine zv_ceq hB zd314_202 rfl (fun hc32 => ?_) (fun hc32 => ?_)
              · rw [if_pos hc32] at h
                refine zv_iincw hB zd314_227 rfl rfl ?_
                refine zv_goto hB zd314_230 rfl ?_
                exact ih _ _ _ _ _ _ _ _ _ _ _ _ _ _ _ _ _ _ q h hK
              · rw [if_neg hc32] at h
                refine zv_ald hB zd314_205 rfl rfl rfl ?_
                refine zv_ald hB zd314_206 rfl rfl rfl ?_
                refine zv_getr hB zd314_207 rfl ?_
                refine zv_ild hB zd314_210 rfl rfl ?_
                refine zv_iald hB zd314_212 rfl rfl (zi_ix_ok c18).1 (zi_ix_ok c18).2 (fun _ _ => ?_)
                obtain ⟨r33, hr33, h⟩ := zi_bind h
                refine zv_cv hB (zv_emq (va2 := [.inr 0, .inl ((zv_up g3 x4 (-1)) x4)]) (F := [.inl f0, .inl f1, .inl f2, .inl r20.2.1, .inl r20.2.2.1, .inl f5]) (F' := [.inl f0, .inl f1, .inl f2, .inl r20.2.1, .inl r20.2.2.1, .inl f5]) (G := [g0, g1, g2, (zv_up g3 x4 (-1)), g4, g5, g6, r20.2.2.2.1, g8, g9, g10, r20.2.2.2.2.1, r20.2.2.2.2.2.1, r20.2.2.2.2.2.2.1, r20.2.2.2.2.2.2.2.1, g15, g16, r20.2.2.2.2.2.2.2.2]) (G' := [g0, g1, g2, (zv_up g3 x4 (-1)), g4, g5, g6, r20.2.2.2.1, g8, g9, g10, r20.2.2.2.2.1, r20.2.2.2.2.2.1, r20.2.2.2.2.2.2.1, r20.2.2.2.2.2.2.2.1, g15, g16, r20.2.2.2.2.2.2.2.2]) (ρ := [0, 5]) (φ := []) (ψ := [4]) [none, none, none, none, none, none] [none, none, none, none, some 0, none, none, none, none, none, none, none, none, none, none, none, none, none] zyw_M_isLand zyw_M_log zye_M_log (by decide +kernel) (zt_M_isLand hr33) trivial ⟨rfl, trivial⟩ rfl rfl rfl rfl rfl rfl rfl) zd314_213 zxt212 rfl (by decide) (by decide) rfl ?_
                refine zv_zeq hB zd314_216 rfl (fun hc34 => ?_) (fun hc34 => ?_)
                · rw [if_pos hc34] at h
                  refine zv_iincw hB zd314_227 rfl rfl ?_
                  refine zv_goto hB zd314_230 rfl ?_
                  exact ih _ _ _ _ _ _ _ _ _ _ _ _ _ _ _ _ _ _ q h hK
                · rw [if_neg hc34] at h
                  refine zv_ald hB zd314_219 rfl rfl rfl ?_
                  refine zv_getr hB zd314_220 rfl ?_
                  refine zv_ild hB zd314_223 rfl rfl ?_
                  refine zv_con hB zd314_225 rfl ?_
                  refine zv_iast hB zd314_226 rfl rfl (zi_ix_ok c18).1 (zi_ix_ok c18).2 ?_
                  refine zv_iincw hB zd314_227 rfl rfl ?_
                  refine zv_goto hB zd314_230 rfl ?_
                  exact ih _ _ _ _ _ _ _ _ _ _ _ _ _ _ _ _ _ _ q h hK
          · rw [if_pos hc22] at h
            refine zv_con hB zd314_145 rfl ?_
            refine zv_goto hB zd314_146 rfl ?_
            refine zv_ceq hB zd314_150 rfl (fun hc35 => ?_) (fun hc35 => ?_)
            · rw [if_pos hc35] at h
              refine zv_ild hB zd314_164 rfl rfl ?_
              refine zv_con hB zd314_165 rfl ?_
              refine zv_addw hB zd314_166 ?_
              refine zv_ild hB zd314_167 rfl rfl ?_
              refine zv_cge hB zd314_168 rfl (fun hc36 => ?_) (fun hc36 => ?_)
              · rw [if_neg (Int.not_lt.mpr hc36)] at h
                refine zv_ald hB zd314_194 rfl rfl rfl ?_
                refine zv_getr hB zd314_195 rfl ?_
                refine zv_ild hB zd314_198 rfl rfl ?_
                refine zv_iald hB zd314_200 rfl rfl (zi_ix_ok c18).1 (zi_ix_ok c18).2 (fun _ _ => ?_)
                refine zv_con hB zd314_201 rfl ?_
                refine zv_ceq hB zd314_202 rfl (fun hc => absurd hc (by omega)) (fun _ => ?_)
                refine zv_ald hB zd314_205 rfl rfl rfl ?_
                refine zv_ald hB zd314_206 rfl rfl rfl ?_
                refine zv_getr hB zd314_207 rfl ?_
                refine zv_ild hB zd314_210 rfl rfl ?_
                refine zv_iald hB zd314_212 rfl rfl (zi_ix_ok c18).1 (zi_ix_ok c18).2 (fun _ _ => ?_)
                obtain ⟨r38, hr38, h⟩ := zi_bind h
                refine zv_cv hB (zv_emq (va2 := [.inr 0, .inl (g3 x4)]) (F := [.inl f0, .inl f1, .inl f2, .inl r20.2.1, .inl r20.2.2.1, .inl f5]) (F' := [.inl f0, .inl f1, .inl f2, .inl r20.2.1, .inl r20.2.2.1, .inl f5]) (G := [g0, g1, g2, g3, g4, g5, g6, r20.2.2.2.1, g8, g9, g10, r20.2.2.2.2.1, r20.2.2.2.2.2.1, r20.2.2.2.2.2.2.1, r20.2.2.2.2.2.2.2.1, g15, g16, r20.2.2.2.2.2.2.2.2]) (G' := [g0, g1, g2, g3, g4, g5, g6, r20.2.2.2.1, g8, g9, g10, r20.2.2.2.2.1, r20.2.2.2.2.2.1, r20.2.2.2.2.2.2.1, r20.2.2.2.2.2.2.2.1, g15, g16, r20.2.2.2.2.2.2.2.2]) (ρ := [0, 5]) (φ := []) (ψ := [4]) [none, none, none, none, none, none] [none, none, none, none, some 0, none, none, none, none, none, none, none, none, none, none, none, none, none] zyw_M_isLand zyw_M_log zye_M_log (by decide +kernel) (zt_M_isLand hr38) trivial ⟨rfl, trivial⟩ rfl rfl rfl rfl rfl rfl rfl) zd314_213 zxt212 rfl (by decide) (by decide) rfl ?_
                refine zv_zeq hB zd314_216 rfl (fun hc39 => ?_) (fun hc39 => ?_)
                · rw [if_pos hc39] at h
                  refine zv_iincw hB zd314_227 rfl rfl ?_
                  refine zv_goto hB zd314_230 rfl ?_
                  exact ih _ _ _ _ _ _ _ _ _ _ _ _ _ _ _ _ _ _ q h hK
                · rw [if_neg hc39] at h
                  refine zv_ald hB zd314_219 rfl rfl rfl ?_
                  refine zv_getr hB zd314_220 rfl ?_
                  refine zv_ild hB zd314_223 rfl rfl ?_
                  refine zv_con hB zd314_225 rfl ?_
                  refine zv_iast hB zd314_226 rfl rfl (zi_ix_ok c18).1 (zi_ix_ok c18).2 ?_
                  refine zv_iincw hB zd314_227 rfl rfl ?_
                  refine zv_goto hB zd314_230 rfl ?_
                  exact ih _ _ _ _ _ _ _ _ _ _ _ _ _ _ _ _ _ _ q h hK
              · rw [if_pos hc36] at h
                refine zv_ald hB zd314_171 rfl rfl rfl ?_
                refine zv_getr hB zd314_172 rfl ?_
                refine zv_ild hB zd314_175 rfl rfl ?_
                refine zv_ald hB zd314_177 rfl rfl rfl ?_
                refine zv_getr hB zd314_178 rfl ?_
                refine zv_ild hB zd314_181 rfl rfl ?_
                refine zv_iald hB zd314_183 rfl rfl (zi_ix_ok c18).1 (zi_ix_ok c18).2 (fun _ _ => ?_)
                refine zv_ald hB zd314_184 rfl rfl rfl ?_
                refine zv_getr hB zd314_185 rfl ?_
                refine zv_ild hB zd314_188 rfl rfl ?_
                refine zv_iald hB zd314_189 rfl rfl (zi_ix_ok c21).1 (zi_ix_ok c21).2 (fun _ _ => ?_)
                obtain ⟨r40, hr40, h⟩ := zi_bind h
                refine zv_cs hB (zv_emq (va2 := [.inl (g3 x4), .inl (g2 x3)]) (F := [.inl f0, .inl f1, .inl f2, .inl r20.2.1, .inl r20.2.2.1, .inl f5]) (F' := [.inl f0, .inl f1, .inl f2, .inl r20.2.1, .inl r20.2.2.1, .inl f5]) (G := [g0, g1, g2, g3, g4, g5, g6, r20.2.2.2.1, g8, g9, g10, r20.2.2.2.2.1, r20.2.2.2.2.2.1, r20.2.2.2.2.2.2.1, r20.2.2.2.2.2.2.2.1, g15, g16, r20.2.2.2.2.2.2.2.2]) (G' := [g0, g1, g2, g3, g4, g5, g6, r20.2.2.2.1, g8, g9, g10, r20.2.2.2.2.1, r20.2.2.2.2.2.1, r20.2.2.2.2.2.2.1, r20.2.2.2.2.2.2.2.1, g15, g16, r20.2.2.2.2.2.2.2.2]) (ρ := []) (φ := []) (ψ := []) [none, none, none, none, none, none] [none, none, none, none, none, none, none, none, none, none, none, none, none, none, none, none, none, none] zyw_M_goesTo zyw_M_log zye_M_log (by decide +kernel) (zt_M_goesTo hr40) trivial trivial rfl rfl rfl rfl rfl rfl rfl) zd314_190 zxt304 rfl (by decide) (by decide) rfl ?_
                refine zv_iast hB zd314_193 rfl rfl (zi_ix_ok c18).1 (zi_ix_ok c18).2 ?_
                refine zv_ald hB zd314_194 rfl rfl rfl ?_
                refine zv_getr hB zd314_195 rfl ?_
                refine zv_ild hB zd314_198 rfl rfl ?_
                refine zv_iald hB zd314_200 rfl rfl (zi_ix_ok c18).1 (zi_ix_ok c18).2 (fun _ _ => ?_)
                refine zv_con hB zd314_201 rfl ?_
                refine zv_ceq hB zd314_202 rfl (fun hc41 => ?_) (fun hc41 => ?_)
                · rw [if_pos hc41] at h
                  refine zv_iincw hB zd314_227 rfl rfl ?_
                  refine zv_goto hB zd314_230 rfl ?_
                  exact ih _ _ _ _ _ _ _ _ _ _ _ _ _ _ _ _ _ _ q h hK
                · rw [if_neg hc41] at h
                  refine zv_ald hB zd314_205 rfl rfl rfl ?_
                  refine zv_ald hB zd314_206 rfl rfl rfl ?_
                  refine zv_getr hB zd314_207 rfl ?_
                  refine zv_ild hB zd314_210 rfl rfl ?_
                  refine zv_iald hB zd314_212 rfl rfl (zi_ix_ok c18).1 (zi_ix_ok c18).2 (fun _ _ => ?_)
                  obtain ⟨r42, hr42, h⟩ := zi_bind h
                  refine zv_cv hB (zv_emq (va2 := [.inr 0, .inl ((zv_up g3 x4 r40) x4)]) (F := [.inl f0, .inl f1, .inl f2, .inl r20.2.1, .inl r20.2.2.1, .inl f5]) (F' := [.inl f0, .inl f1, .inl f2, .inl r20.2.1, .inl r20.2.2.1, .inl f5]) (G := [g0, g1, g2, (zv_up g3 x4 r40), g4, g5, g6, r20.2.2.2.1, g8, g9, g10, r20.2.2.2.2.1, r20.2.2.2.2.2.1, r20.2.2.2.2.2.2.1, r20.2.2.2.2.2.2.2.1, g15, g16, r20.2.2.2.2.2.2.2.2]) (G' := [g0, g1, g2, (zv_up g3 x4 r40), g4, g5, g6, r20.2.2.2.1, g8, g9, g10, r20.2.2.2.2.1, r20.2.2.2.2.2.1, r20.2.2.2.2.2.2.1, r20.2.2.2.2.2.2.2.1, g15, g16, r20.2.2.2.2.2.2.2.2]) (ρ := [0, 5]) (φ := []) (ψ := [4]) [none, none, none, none, none, none] [none, none, none, none, some 0, none, none, none, none, none, none, none, none, none, none, none, none, none] zyw_M_isLand zyw_M_log zye_M_log (by decide +kernel) (zt_M_isLand hr42) trivial ⟨rfl, trivial⟩ rfl rfl rfl rfl rfl rfl rfl) zd314_213 zxt212 rfl (by decide) (by decide) rfl ?_
                  refine zv_zeq hB zd314_216 rfl (fun hc43 => ?_) (fun hc43 => ?_)
                  · rw [if_pos hc43] at h
                    refine zv_iincw hB zd314_227 rfl rfl ?_
                    refine zv_goto hB zd314_230 rfl ?_
                    exact ih _ _ _ _ _ _ _ _ _ _ _ _ _ _ _ _ _ _ q h hK
                  · rw [if_neg hc43] at h
                    refine zv_ald hB zd314_219 rfl rfl rfl ?_
                    refine zv_getr hB zd314_220 rfl ?_
                    refine zv_ild hB zd314_223 rfl rfl ?_
                    refine zv_con hB zd314_225 rfl ?_
                    refine zv_iast hB zd314_226 rfl rfl (zi_ix_ok c18).1 (zi_ix_ok c18).2 ?_
                    refine zv_iincw hB zd314_227 rfl rfl ?_
                    refine zv_goto hB zd314_230 rfl ?_
                    exact ih _ _ _ _ _ _ _ _ _ _ _ _ _ _ _ _ _ _ q h hK
            · rw [if_neg hc35] at h
              refine zv_ald hB zd314_153 rfl rfl rfl ?_
              refine zv_getr hB zd314_154 rfl ?_
              refine zv_ild hB zd314_157 rfl rfl ?_
              refine zv_con hB zd314_159 rfl ?_
              refine zv_iast hB zd314_160 rfl rfl (zi_ix_ok c18).1 (zi_ix_ok c18).2 ?_
              refine zv_goto hB zd314_161 rfl ?_
              refine zv_ald hB zd314_194 rfl rfl rfl ?_
              refine zv_getr hB zd314_195 rfl ?_
              refine zv_ild hB zd314_198 rfl rfl ?_
              refine zv_iald hB zd314_200 rfl rfl (zi_ix_ok c18).1 (zi_ix_ok c18).2 (fun _ _ => ?_)
              refine zv_con hB zd314_201 rfl ?_
              refine zv_ceq hB zd314_202 rfl (fun hc44 => ?_) (fun hc44 => ?_)
              · rw [if_pos hc44] at h
                refine zv_iincw hB zd314_227 rfl rfl ?_
                refine zv_goto hB zd314_230 rfl ?_
                exact ih _ _ _ _ _ _ _ _ _ _ _ _ _ _ _ _ _ _ q h hK
              · rw [if_neg hc44] at h
                refine zv_ald hB zd314_205 rfl rfl rfl ?_
                refine zv_ald hB zd314_206 rfl rfl rfl ?_
                refine zv_getr hB zd314_207 rfl ?_
                refine zv_ild hB zd314_210 rfl rfl ?_
                refine zv_iald hB zd314_212 rfl rfl (zi_ix_ok c18).1 (zi_ix_ok c18).2 (fun _ _ => ?_)
                obtain ⟨r45, hr45, h⟩ := zi_bind h
                refine zv_cv hB (zv_emq (va2 := [.inr 0, .inl ((zv_up g3 x4 (-1)) x4)]) (F := [.inl f0, .inl f1, .inl f2, .inl r20.2.1, .inl r20.2.2.1, .inl f5]) (F' := [.inl f0, .inl f1, .inl f2, .inl r20.2.1, .inl r20.2.2.1, .inl f5]) (G := [g0, g1, g2, (zv_up g3 x4 (-1)), g4, g5, g6, r20.2.2.2.1, g8, g9, g10, r20.2.2.2.2.1, r20.2.2.2.2.2.1, r20.2.2.2.2.2.2.1, r20.2.2.2.2.2.2.2.1, g15, g16, r20.2.2.2.2.2.2.2.2]) (G' := [g0, g1, g2, (zv_up g3 x4 (-1)), g4, g5, g6, r20.2.2.2.1, g8, g9, g10, r20.2.2.2.2.1, r20.2.2.2.2.2.1, r20.2.2.2.2.2.2.1, r20.2.2.2.2.2.2.2.1, g15, g16, r20.2.2.2.2.2.2.2.2]) (ρ := [0, 5]) (φ := []) (ψ := [4]) [none, none, none, none, none, none] [none, none, none, none, some 0, none, none, none, none, none, none, none, none, none, none, none, none, none] zyw_M_isLand zyw_M_log zye_M_log (by decide +kernel) (zt_M_isLand hr45) trivial ⟨rfl, trivial⟩ rfl rfl rfl rfl rfl rfl rfl) zd314_213 zxt212 rfl (by decide) (by decide) rfl ?_
                refine zv_zeq hB zd314_216 rfl (fun hc46 => ?_) (fun hc46 => ?_)
                · rw [if_pos hc46] at h
                  refine zv_iincw hB zd314_227 rfl rfl ?_
                  refine zv_goto hB zd314_230 rfl ?_
                  exact ih _ _ _ _ _ _ _ _ _ _ _ _ _ _ _ _ _ _ q h hK
                · rw [if_neg hc46] at h
                  refine zv_ald hB zd314_219 rfl rfl rfl ?_
                  refine zv_getr hB zd314_220 rfl ?_
                  refine zv_ild hB zd314_223 rfl rfl ?_
                  refine zv_con hB zd314_225 rfl ?_
                  refine zv_iast hB zd314_226 rfl rfl (zi_ix_ok c18).1 (zi_ix_ok c18).2 ?_
                  refine zv_iincw hB zd314_227 rfl rfl ?_
                  refine zv_goto hB zd314_230 rfl ?_
                  exact ih _ _ _ _ _ _ _ _ _ _ _ _ _ _ _ _ _ _ q h hK
        · rw [if_pos hc19] at h
          refine zv_goto hB zd314_121 rfl ?_
          refine zv_iincw hB zd314_227 rfl rfl ?_
          refine zv_goto hB zd314_230 rfl ?_
          exact ih _ _ _ _ _ _ _ _ _ _ _ _ _ _ _ _ _ _ q h hK
  have l1 : ∀ (n : Nat) (x1 : Int) (x2 : Int) (x3 : Int) (f1 : Int) (f3 : Int) (f4 : Int) (g0 : (Int → Int)) (g2 : (Int → Int)) (g3 : (Int → Int)) (g4 : (Int → Int)) (g5 : (Int → Int)) (g7 : (Int → Int)) (g11 : (Int → Int)) (g12 : (Int → Int)) (g13 : (Int → Int)) (g14 : (Int → Int)) (g17 : (Int → Int)) (q : Int × Int × (Int → Int) × (Int → Int) × (Int → Int) × (Int → Int) × (Int → Int) × (Int → Int) × (Int → Int) × (Int → Int)), zf_M_log_l1 x1 f0 f2 f5 g0 g2 g6 g8 g9 g10 g15 g16 n x3 f3 f4 g3 g4 g7 g11 g12 g13 g14 g17 = some q → (good 243 [.inr 0, .inr 1000, .inl x2, .inr 1000, .inr 1000, .inr 1000] [] [.inl f0, .inl f1, .inl f2, .inl q.1, .inl q.2.1, .inl f5] [g0, g1, g2, q.2.2.1, q.2.2.2.1, g5, g6, q.2.2.2.2.1, g8, g9, g10, q.2.2.2.2.2.1, q.2.2.2.2.2.2.1, q.2.2.2.2.2.2.2.1, q.2.2.2.2.2.2.2.2.1, g15, g16, q.2.2.2.2.2.2.2.2.2]) → good 94 [.inr 0, .inl x1, .inl x2, .inl x3, .inr 1000, .inr 1000] [] [.inl f0, .inl f1, .inl f2, .inl f3, .inl f4, .inl f5] [g0, g1, g2, g3, g4, g5, g6, g7, g8, g9, g10, g11, g12, g13, g14, g15, g16, g17] := by
    intro n
    induction n with
    | zero => intro x1 x2 x3 f1 f3 f4 g0 g2 g3 g4 g5 g7 g11 g12 g13 g14 g17 q h; exact absurd (show none = some q from h) (fun h => by cases h)
    | succ n ih =>
      intro x1 x2 x3 f1 f3 f4 g0 g2 g3 g4 g5 g7 g11 g12 g13 g14 g17 q h hK
      replace h : zf_M_log_l1_b x1 f0 f2 f5 g0 g2 g6 g8 g9 g10 g15 g16 (zf_M_log_l1 x1 f0 f2 f5 g0 g2 g6 g8 g9 g10 g15 g16 n) x3 f3 f4 g3 g4 g7 g11 g12 g13 g14 g17 = some q := h
      unfold zf_M_log_l1_b at h
      refine zv_ild hB zd314_94 rfl rfl ?_
      refine zv_ild hB zd314_95 rfl rfl ?_
      refine zv_cge hB zd314_96 rfl (fun hc16 => ?_) (fun hc16 => ?_)
      · rw [if_neg (Int.not_lt.mpr hc16)] at h
        have hq := Option.some.inj h
        subst hq
        refine zv_wk hB (L' := [.inr 0, .inr 1000, .inl x2, .inr 1000, .inr 1000, .inr 1000]) (F' := [.inl f0, .inl f1, .inl f2, .inl f3, .inl f4, .inl f5]) ⟨fun _ => rfl, fun (h : zv_is (.inr 1000)) => (Nat.lt_irrefl 1000 h).elim, fun _ => rfl, fun (h : zv_is (.inr 1000)) => (Nat.lt_irrefl 1000 h).elim, fun (h : zv_is (.inr 1000)) => (Nat.lt_irrefl 1000 h).elim, fun (h : zv_is (.inr 1000)) => (Nat.lt_irrefl 1000 h).elim, trivial⟩ ⟨fun _ => rfl, fun _ => rfl, fun _ => rfl, fun _ => rfl, fun _ => rfl, fun _ => rfl, trivial⟩ ?_
        exact hK
      · rw [if_pos hc16] at h
        refine zv_con hB zd314_99 rfl ?_
        refine zv_ist hB zd314_100 rfl rfl rfl ?_
        obtain ⟨q47, hq47, h⟩ := zi_bind h
        refine l2 _ _ _ _ _ _ _ _ _ _ _ _ _ _ _ _ _ _ _ q47 hq47 ?_
        show good 233 [.inr 0, .inl x1, .inl x2, .inl x3, .inr 1000, .inr 1000] [] [.inl f0, .inl f1, .inl f2, .inl q47.1, .inl q47.2.1, .inl f5] [g0, g1, g2, q47.2.2.1, g4, g5, g6, q47.2.2.2.1, g8, g9, g10, q47.2.2.2.2.1, q47.2.2.2.2.2.1, q47.2.2.2.2.2.2.1, q47.2.2.2.2.2.2.2.1, g15, g16, q47.2.2.2.2.2.2.2.2]
        refine zv_ald hB zd314_233 rfl rfl rfl ?_
        obtain ⟨r48, hr48, h⟩ := zi_bind h
        refine zv_cv hB (zv_emq (va2 := [.inr 0]) (F := [.inl f0, .inl f1, .inl f2, .inl q47.1, .inl q47.2.1, .inl f5]) (F' := [.inl f0, .inl f1, .inl f2, .inl q47.1, .inl q47.2.1, .inl f5]) (G := [g0, g1, g2, q47.2.2.1, g4, g5, g6, q47.2.2.2.1, g8, g9, g10, q47.2.2.2.2.1, q47.2.2.2.2.2.1, q47.2.2.2.2.2.2.1, q47.2.2.2.2.2.2.2.1, g15, g16, q47.2.2.2.2.2.2.2.2]) (G' := [g0, g1, g2, q47.2.2.1, r48, g5, g6, q47.2.2.2.1, g8, g9, g10, q47.2.2.2.2.1, q47.2.2.2.2.2.1, q47.2.2.2.2.2.2.1, q47.2.2.2.2.2.2.2.1, g15, g16, q47.2.2.2.2.2.2.2.2]) (ρ := [0, 5]) (φ := []) (ψ := [4]) [none, none, none, none, none, none] [none, none, none, none, some 0, none, none, none, none, none, none, none, none, none, none, none, none, none] zyw_M_passes zyw_M_log zye_M_log (by decide +kernel) (zt_M_passes hr48) trivial ⟨rfl, trivial⟩ rfl rfl rfl rfl rfl rfl rfl) zd314_234 zxt294 rfl (by decide) (by decide) rfl ?_
        refine zv_iincw hB zd314_237 rfl rfl ?_
        refine zv_goto hB zd314_240 rfl ?_
        exact ih _ _ _ _ _ _ _ _ _ _ _ _ _ _ _ _ _ q h hK
  have l3 : ∀ (n : Nat) (x2 : Int) (x3 : Int) (x4 : Int) (x5 : Int) (f1 : Int) (f3 : Int) (f4 : Int) (g0 : (Int → Int)) (g2 : (Int → Int)) (g3 : (Int → Int)) (g4 : (Int → Int)) (g5 : (Int → Int)) (g7 : (Int → Int)) (g11 : (Int → Int)) (g12 : (Int → Int)) (g13 : (Int → Int)) (g14 : (Int → Int)) (g17 : (Int → Int)) (q : Int × Int), zf_M_log_l3 g3 n x3 x4 x5 = some q → (good 301 [.inr 1000, .inr 1000, .inl x2, .inl q.1, .inl q.2, .inr 1000] [] [.inl f0, .inl f1, .inl f2, .inl f3, .inl f4, .inl f5] [g0, g1, g2, g3, g4, g5, g6, g7, g8, g9, g10, g11, g12, g13, g14, g15, g16, g17]) → good 256 [.inr 0, .inr 1000, .inl x2, .inl x3, .inl x4, .inl x5] [] [.inl f0, .inl f1, .inl f2, .inl f3, .inl f4, .inl f5] [g0, g1, g2, g3, g4, g5, g6, g7, g8, g9, g10, g11, g12, g13, g14, g15, g16, g17] := by
    intro n
    induction n with
    | zero => intro x2 x3 x4 x5 f1 f3 f4 g0 g2 g3 g4 g5 g7 g11 g12 g13 g14 g17 q h; exact absurd (show none = some q from h) (fun h => by cases h)
    | succ n ih =>
      intro x2 x3 x4 x5 f1 f3 f4 g0 g2 g3 g4 g5 g7 g11 g12 g13 g14 g17 q h hK
      replace h : zf_M_log_l3_b g3 (zf_M_log_l3 g3 n) x3 x4 x5 = some q := h
      unfold zf_M_log_l3_b at h
      refine zv_ild hB zd314_256 rfl rfl ?_
      refine zv_con hB zd314_258 rfl ?_
      refine zv_cge hB zd314_261 rfl (fun hc51 => ?_) (fun hc51 => ?_)
      · rw [if_neg (Int.not_lt.mpr hc51)] at h
        have hq := Option.some.inj h
        subst hq
        refine zv_wk hB (L' := [.inr 1000, .inr 1000, .inl x2, .inl x3, .inl x4, .inr 1000]) (F' := [.inl f0, .inl f1, .inl f2, .inl f3, .inl f4, .inl f5]) ⟨fun (h : zv_is (.inr 1000)) => (Nat.lt_irrefl 1000 h).elim, fun (h : zv_is (.inr 1000)) => (Nat.lt_irrefl 1000 h).elim, fun _ => rfl, fun _ => rfl, fun _ => rfl, fun (h : zv_is (.inr 1000)) => (Nat.lt_irrefl 1000 h).elim, trivial⟩ ⟨fun _ => rfl, fun _ => rfl, fun _ => rfl, fun _ => rfl, fun _ => rfl, fun _ => rfl, trivial⟩ ?_
        exact hK
      · rw [if_pos hc51] at h
        refine zv_ald hB zd314_264 rfl rfl rfl ?_
        refine zv_getr hB zd314_265 rfl ?_
        refine zv_ild hB zd314_268 rfl rfl ?_
        obtain ⟨c52, h⟩ := zi_if h
        refine zv_iald hB zd314_270 rfl rfl (zi_ix_ok c52).1 (zi_ix_ok c52).2 (fun _ _ => ?_)
        refine zv_con hB zd314_271 rfl ?_
        refine zv_cne hB zd314_272 rfl (fun hc53 => ?_) (fun hc53 => ?_)
        · rw [if_neg hc53] at h
          refine zv_ild hB zd314_278 rfl rfl ?_
          refine zv_zne hB zd314_279 rfl (fun hc54 => ?_) (fun hc54 => ?_)
          · rw [if_neg hc54] at h
            refine zv_ild hB zd314_287 rfl rfl ?_
            refine zv_ist hB zd314_289 rfl rfl rfl ?_
            refine zv_ild hB zd314_291 rfl rfl ?_
            refine zv_con hB zd314_292 rfl ?_
            refine zv_addw hB zd314_293 ?_
            refine zv_ist hB zd314_294 rfl rfl rfl ?_
            refine zv_iincw hB zd314_295 rfl rfl ?_
            refine zv_goto hB zd314_298 rfl ?_
            exact ih _ _ _ _ _ _ _ _ _ _ _ _ _ _ _ _ _ _ q h hK
          · rw [if_pos hc54] at h
            refine zv_ild hB zd314_282 rfl rfl ?_
            refine zv_goto hB zd314_284 rfl ?_
            refine zv_ist hB zd314_289 rfl rfl rfl ?_
            refine zv_ild hB zd314_291 rfl rfl ?_
            refine zv_con hB zd314_292 rfl ?_
            refine zv_addw hB zd314_293 ?_
            refine zv_ist hB zd314_294 rfl rfl rfl ?_
            refine zv_iincw hB zd314_295 rfl rfl ?_
            refine zv_goto hB zd314_298 rfl ?_
            exact ih _ _ _ _ _ _ _ _ _ _ _ _ _ _ _ _ _ _ q h hK
        · rw [if_pos hc53] at h
          refine zv_goto hB zd314_275 rfl ?_
          refine zv_iincw hB zd314_295 rfl rfl ?_
          refine zv_goto hB zd314_298 rfl ?_
          exact ih _ _ _ _ _ _ _ _ _ _ _ _ _ _ _ _ _ _ q h hK
  unfold zf_M_log at h
  refine zv_ild hB zd314_0 rfl rfl ?_
  refine zv_con hB zd314_1 rfl ?_
  refine zv_con hB zd314_2 rfl ?_
  obtain ⟨r1, hr1, h⟩ := zi_bind h
  refine zv_cs hB (zv_emq (va2 := [.inl x1, .inl 1, .inl 12]) (F := [.inl f0, .inl f1, .inl f2, .inl f3, .inl f4, .inl f5]) (F' := [.inl f0, .inl f1, .inl f2, .inl f3, .inl f4, .inl f5]) (G := [g0, g1, g2, g3, g4, g5, g6, g7, g8, g9, g10, g11, g12, g13, g14, g15, g16, g17]) (G' := [g0, g1, g2, g3, g4, g5, g6, g7, g8, g9, g10, g11, g12, g13, g14, g15, g16, g17]) (ρ := []) (φ := []) (ψ := []) [none, none, none, none, none, none] [none, none, none, none, none, none, none, none, none, none, none, none, none, none, none, none, none, none] zyw_M_in zyw_M_log zye_M_log (by decide +kernel) (zt_M_in hr1) trivial trivial rfl rfl rfl rfl rfl rfl rfl) zd314_4 zxt200 rfl (by decide) (by decide) rfl ?_
  refine zv_zeq hB zd314_7 rfl (fun hc2 => ?_) (fun hc2 => ?_)
  · rw [if_pos hc2] at h
    refine zv_con hB zd314_36 rfl ?_
    have hw := Option.some.inj h
    subst hw
    exact hret _ _ _ _ _ zd314_37 (by trivial) ⟨rfl, rfl, rfl⟩
  · rw [if_neg hc2] at h
    refine zv_ild hB zd314_10 rfl rfl ?_
    refine zv_con hB zd314_11 rfl ?_
    refine zv_con hB zd314_12 rfl ?_
    obtain ⟨r3, hr3, h⟩ := zi_bind h
    refine zv_cs hB (zv_emq (va2 := [.inl x2, .inl 0, .inl 1]) (F := [.inl f0, .inl f1, .inl f2, .inl f3, .inl f4, .inl f5]) (F' := [.inl f0, .inl f1, .inl f2, .inl f3, .inl f4, .inl f5]) (G := [g0, g1, g2, g3, g4, g5, g6, g7, g8, g9, g10, g11, g12, g13, g14, g15, g16, g17]) (G' := [g0, g1, g2, g3, g4, g5, g6, g7, g8, g9, g10, g11, g12, g13, g14, g15, g16, g17]) (ρ := []) (φ := []) (ψ := []) [none, none, none, none, none, none] [none, none, none, none, none, none, none, none, none, none, none, none, none, none, none, none, none, none] zyw_M_in zyw_M_log zye_M_log (by decide +kernel) (zt_M_in hr3) trivial trivial rfl rfl rfl rfl rfl rfl rfl) zd314_13 zxt200 rfl (by decide) (by decide) rfl ?_
    refine zv_zeq hB zd314_16 rfl (fun hc4 => ?_) (fun hc4 => ?_)
    · rw [if_pos hc4] at h
      refine zv_con hB zd314_36 rfl ?_
      have hw := Option.some.inj h
      subst hw
      exact hret _ _ _ _ _ zd314_37 (by trivial) ⟨rfl, rfl, rfl⟩
    · rw [if_neg hc4] at h
      refine zv_ald hB zd314_19 rfl rfl rfl ?_
      refine zv_getf hB zd314_20 rfl rfl (fun _ _ => ?_)
      refine zv_zeq hB zd314_23 rfl (fun hc5 => ?_) (fun hc5 => ?_)
      · rw [if_pos hc5] at h
        refine zv_con hB zd314_36 rfl ?_
        have hw := Option.some.inj h
        subst hw
        exact hret _ _ _ _ _ zd314_37 (by trivial) ⟨rfl, rfl, rfl⟩
      · rw [if_neg hc5] at h
        refine zv_con hB zd314_26 rfl ?_
        refine zv_ild hB zd314_27 rfl rfl ?_
        refine zv_mulw hB zd314_28 ?_
        refine zv_ald hB zd314_29 rfl rfl rfl ?_
        refine zv_getf hB zd314_30 rfl rfl (fun _ _ => ?_)
        refine zv_cle hB zd314_33 rfl (fun hc6 => ?_) (fun hc6 => ?_)
        · rw [if_neg (Int.not_lt.mpr hc6)] at h
          refine zv_ald hB zd314_38 rfl rfl rfl ?_
          refine zv_con hB zd314_39 rfl ?_
          refine zv_putf hB zd314_40 rfl rfl (fun h => by cases h) rfl ?_
          refine zv_ald hB zd314_43 rfl rfl rfl ?_
          refine zv_ild hB zd314_44 rfl rfl ?_
          obtain ⟨r7, hr7, h⟩ := zi_bind h
          refine zv_cv hB (zv_emq (va2 := [.inr 0, .inl x1]) (F := [.inl f0, .inl 0, .inl f2, .inl f3, .inl f4, .inl f5]) (F' := [.inl f0, .inl 0, .inl f2, .inl f3, .inl f4, .inl f5]) (G := [g0, g1, g2, g3, g4, g5, g6, g7, g8, g9, g10, g11, g12, g13, g14, g15, g16, g17]) (G' := [r7.2.1, g1, r7.2.2, g3, g4, g5, g6, g7, g8, g9, g10, g11, g12, g13, g14, g15, g16, g17]) (ρ := [0, 1, 2, 3]) (φ := []) (ψ := [0, 1, 2]) [none, none, none, none, none, none] [some 0, some 1, some 2, none, none, none, none, none, none, none, none, none, none, none, none, none, none, none] zyw_M_takesLog zyw_M_log zye_M_log (by decide +kernel) (zt_M_takesLog hr7) trivial ⟨rfl, rfl, rfl, trivial⟩ rfl rfl rfl rfl rfl rfl rfl) zd314_45 zxt315 rfl (by decide) (by decide) rfl ?_
          refine zv_zne hB zd314_48 rfl (fun hc8 => ?_) (fun hc8 => ?_)
          · rw [if_neg hc8] at h
            refine zv_con hB zd314_54 rfl ?_
            refine zv_ist hB zd314_55 rfl rfl rfl ?_
            obtain ⟨q14, hq14, h⟩ := zi_bind h
            refine l0 _ _ _ _ _ _ _ _ _ _ _ _ _ _ _ _ _ _ q14 hq14 ?_
            show good 88 [.inr 0, .inl x1, .inl x2, .inr 1000, .inr 1000, .inr 1000] [] [.inl f0, .inl 0, .inl f2, .inl f3, .inl f4, .inl f5] [r7.2.1, g1, r7.2.2, q14, g4, g5, g6, g7, g8, g9, g10, g11, g12, g13, g14, g15, g16, g17]
            refine zv_ald hB zd314_88 rfl rfl rfl ?_
            obtain ⟨r15, hr15, h⟩ := zi_bind h
            refine zv_cv hB (zv_emq (va2 := [.inr 0]) (F := [.inl f0, .inl 0, .inl f2, .inl f3, .inl f4, .inl f5]) (F' := [.inl f0, .inl 0, .inl f2, .inl f3, .inl f4, .inl f5]) (G := [r7.2.1, g1, r7.2.2, q14, g4, g5, g6, g7, g8, g9, g10, g11, g12, g13, g14, g15, g16, g17]) (G' := [r7.2.1, g1, r7.2.2, q14, g4, r15, g6, g7, g8, g9, g10, g11, g12, g13, g14, g15, g16, g17]) (ρ := [0, 5, 6]) (φ := []) (ψ := [4, 5]) [none, none, none, none, none, none] [none, none, none, none, some 0, some 1, none, none, none, none, none, none, none, none, none, none, none, none] zyw_M_begins zyw_M_log zye_M_log (by decide +kernel) (zt_M_begins hr15) trivial ⟨rfl, rfl, trivial⟩ rfl rfl rfl rfl rfl rfl rfl) zd314_89 zxt299 rfl (by decide) (by decide) rfl ?_
            refine zv_con hB zd314_92 rfl ?_
            refine zv_ist hB zd314_93 rfl rfl rfl ?_
            obtain ⟨q49, hq49, h⟩ := zi_bind h
            refine l1 _ _ _ _ _ _ _ _ _ _ _ _ _ _ _ _ _ _ q49 hq49 ?_
            show good 243 [.inr 0, .inr 1000, .inl x2, .inr 1000, .inr 1000, .inr 1000] [] [.inl f0, .inl 0, .inl f2, .inl q49.1, .inl q49.2.1, .inl f5] [r7.2.1, g1, r7.2.2, q49.2.2.1, q49.2.2.2.1, r15, g6, q49.2.2.2.2.1, g8, g9, g10, q49.2.2.2.2.2.1, q49.2.2.2.2.2.2.1, q49.2.2.2.2.2.2.2.1, q49.2.2.2.2.2.2.2.2.1, g15, g16, q49.2.2.2.2.2.2.2.2.2]
            refine zv_ald hB zd314_243 rfl rfl rfl ?_
            obtain ⟨r50, hr50, h⟩ := zi_bind h
            refine zv_cv hB (zv_emq (va2 := [.inr 0]) (F := [.inl f0, .inl 0, .inl f2, .inl q49.1, .inl q49.2.1, .inl f5]) (F' := [.inl f0, .inl 0, .inl f2, .inl q49.1, .inl q49.2.1, .inl f5]) (G := [r7.2.1, g1, r7.2.2, q49.2.2.1, q49.2.2.2.1, r15, g6, q49.2.2.2.2.1, g8, g9, g10, q49.2.2.2.2.2.1, q49.2.2.2.2.2.2.1, q49.2.2.2.2.2.2.2.1, q49.2.2.2.2.2.2.2.2.1, g15, g16, q49.2.2.2.2.2.2.2.2.2]) (G' := [r7.2.1, g1, r7.2.2, q49.2.2.1, r50, r15, g6, q49.2.2.2.2.1, g8, g9, g10, q49.2.2.2.2.2.1, q49.2.2.2.2.2.2.1, q49.2.2.2.2.2.2.2.1, q49.2.2.2.2.2.2.2.2.1, g15, g16, q49.2.2.2.2.2.2.2.2.2]) (ρ := [0, 6, 5]) (φ := []) (ψ := [5, 4]) [none, none, none, none, none, none] [none, none, none, none, some 1, some 0, none, none, none, none, none, none, none, none, none, none, none, none] zyw_M_again zyw_M_log zye_M_log (by decide +kernel) (zt_M_again hr50) trivial ⟨rfl, rfl, trivial⟩ rfl rfl rfl rfl rfl rfl rfl) zd314_244 zxt301 rfl (by decide) (by decide) rfl ?_
            refine zv_con hB zd314_247 rfl ?_
            refine zv_ist hB zd314_248 rfl rfl rfl ?_
            refine zv_con hB zd314_249 rfl ?_
            refine zv_ist hB zd314_251 rfl rfl rfl ?_
            refine zv_con hB zd314_253 rfl ?_
            refine zv_ist hB zd314_254 rfl rfl rfl ?_
            obtain ⟨q55, hq55, h⟩ := zi_bind h
            refine l3 _ _ _ _ _ _ _ _ _ _ _ _ _ _ _ _ _ _ _ q55 hq55 ?_
            show good 301 [.inr 1000, .inr 1000, .inl x2, .inl q55.1, .inl q55.2, .inr 1000] [] [.inl f0, .inl 0, .inl f2, .inl q49.1, .inl q49.2.1, .inl f5] [r7.2.1, g1, r7.2.2, q49.2.2.1, r50, r15, g6, q49.2.2.2.2.1, g8, g9, g10, q49.2.2.2.2.2.1, q49.2.2.2.2.2.2.1, q49.2.2.2.2.2.2.2.1, q49.2.2.2.2.2.2.2.2.1, g15, g16, q49.2.2.2.2.2.2.2.2.2]
            refine zv_ild hB zd314_301 rfl rfl ?_
            refine zv_zne hB zd314_302 rfl (fun hc56 => ?_) (fun hc56 => ?_)
            · rw [if_neg hc56] at h
              refine zv_ild hB zd314_309 rfl rfl ?_
              have hw := Option.some.inj h
              subst hw
              exact hret _ _ _ _ _ zd314_311 (by trivial) ⟨rfl, rfl, rfl⟩
            · rw [if_pos hc56] at h
              refine zv_ild hB zd314_305 rfl rfl ?_
              refine zv_goto hB zd314_306 rfl ?_
              have hw := Option.some.inj h
              subst hw
              exact hret _ _ _ _ _ zd314_311 (by trivial) ⟨rfl, rfl, rfl⟩
          · rw [if_pos hc8] at h
            refine zv_con hB zd314_51 rfl ?_
            have hw := Option.some.inj h
            subst hw
            exact hret _ _ _ _ _ zd314_53 (by trivial) ⟨rfl, rfl, rfl⟩
        · rw [if_pos hc6] at h
          refine zv_con hB zd314_36 rfl ?_
          have hw := Option.some.inj h
          subst hw
          exact hret _ _ _ _ _ zd314_37 (by trivial) ⟨rfl, rfl, rfl⟩
end
section
/-! Methods as functions, and that they do what these do. -/
/-! M_over (II)I -/
-- names: 0 StarTalesModel('arg', 0), 1 (0, 422)(0, 12, 0)
-- fields: ; arrays: g0 = 1; out: [('ret', None)]
abbrev zy_M_over : zNL := (2, [(0, 12)], [], [(0, 12, 0, 1)], [(1, 0, 422, 0)])
theorem zyw_M_over : zv_wf zy_M_over = true := by decide +kernel
theorem zye_M_over : zv_ek2 zy_M_over = true := by decide +kernel
def zf_M_over_l0_b (x1 : Int) (x2 : Int) (g0 : (Int → Int)) (rec : Int → Int → Option (Int)) (x3 : Int) (x4 : Int) : Option (Int) := if x4 < 24 then ((zf_M_isTold x4 g0).bind fun r4 => (if r4 = 0 then (rec x3 (zi_w (x4 + 1))) else (cond (zi_ix (zi_w (24 + x4)) 422) (if (g0 (zi_w (24 + x4))) = x2 then (cond (zi_ix (zi_w (0 + x4)) 422) (rec (zi_or x3 (zi_shl 1 (zi_rem (zi_w ((zi_w (x1 - (g0 (zi_w (0 + x4))))) + 24)) 24))) (zi_w (x4 + 1))) none) else (rec x3 (zi_w (x4 + 1)))) none))) else (some x3)
def zf_M_over_l0 (x1 : Int) (x2 : Int) (g0 : (Int → Int)) : Nat → Int → Int → Option (Int)
  | 0, _, _ => none
  | n + 1, x3, x4 => zf_M_over_l0_b x1 x2 g0 (zf_M_over_l0 x1 x2 g0 n) x3 x4
def zf_M_over (x1 : Int) (x2 : Int) (g0 : (Int → Int)) : Option (Int) := (zf_M_isPlace x1 x2).bind fun r1 => (if r1 = 0 then (some (-1)) else ((zf_M_over_l0 x1 x2 g0 zi_fu 0 0).bind fun q9 => (some q9)))
theorem zd316_0 : decode zxm316.2.1 0 = .ok (.iload_n 1, 1) := by decide +kernel
theorem zd316_1 : decode zxm316.2.1 1 = .ok (.iload_n 2, 1) := by decide +kernel
theorem zd316_2 : decode zxm316.2.1 2 = .ok (.invokestatic 154, 3) := by decide +kernel
theorem zd316_5 : decode zxm316.2.1 5 = .ok (.ifCond .ne 5, 3) := by decide +kernel
theorem zd316_8 : decode zxm316.2.1 8 = .ok (.iconst (-1), 1) := by decide +kernel
theorem zd316_9 : decode zxm316.2.1 9 = .ok (.ireturn, 1) := by decide +kernel
theorem zd316_10 : decode zxm316.2.1 10 = .ok (.iconst 0, 1) := by decide +kernel
theorem zd316_11 : decode zxm316.2.1 11 = .ok (.istore_n 3, 1) := by decide +kernel
theorem zd316_12 : decode zxm316.2.1 12 = .ok (.iconst 0, 1) := by decide +kernel
theorem zd316_13 : decode zxm316.2.1 13 = .ok (.istore 4, 2) := by decide +kernel
theorem zd316_15 : decode zxm316.2.1 15 = .ok (.iload 4, 2) := by decide +kernel
theorem zd316_17 : decode zxm316.2.1 17 = .ok (.bipush 24, 2) := by decide +kernel
theorem zd316_19 : decode zxm316.2.1 19 = .ok (.if_icmp .ge 54, 3) := by decide +kernel
theorem zd316_22 : decode zxm316.2.1 22 = .ok (.aload_n 0, 1) := by decide +kernel
theorem zd316_23 : decode zxm316.2.1 23 = .ok (.iload 4, 2) := by decide +kernel
theorem zd316_25 : decode zxm316.2.1 25 = .ok (.invokevirtual 157, 3) := by decide +kernel
theorem zd316_28 : decode zxm316.2.1 28 = .ok (.ifCond .eq 39, 3) := by decide +kernel
theorem zd316_31 : decode zxm316.2.1 31 = .ok (.aload_n 0, 1) := by decide +kernel
theorem zd316_32 : decode zxm316.2.1 32 = .ok (.getfield 7, 3) := by decide +kernel
theorem zd316_35 : decode zxm316.2.1 35 = .ok (.bipush 24, 2) := by decide +kernel
theorem zd316_37 : decode zxm316.2.1 37 = .ok (.iload 4, 2) := by decide +kernel
theorem zd316_39 : decode zxm316.2.1 39 = .ok (.iadd, 1) := by decide +kernel
theorem zd316_40 : decode zxm316.2.1 40 = .ok (.iaload, 1) := by decide +kernel
theorem zd316_41 : decode zxm316.2.1 41 = .ok (.iload_n 2, 1) := by decide +kernel
theorem zd316_42 : decode zxm316.2.1 42 = .ok (.if_icmp .ne 25, 3) := by decide +kernel
theorem zd316_45 : decode zxm316.2.1 45 = .ok (.iload_n 3, 1) := by decide +kernel
theorem zd316_46 : decode zxm316.2.1 46 = .ok (.iconst 1, 1) := by decide +kernel
theorem zd316_47 : decode zxm316.2.1 47 = .ok (.iload_n 1, 1) := by decide +kernel
theorem zd316_48 : decode zxm316.2.1 48 = .ok (.aload_n 0, 1) := by decide +kernel
theorem zd316_49 : decode zxm316.2.1 49 = .ok (.getfield 7, 3) := by decide +kernel
theorem zd316_52 : decode zxm316.2.1 52 = .ok (.iconst 0, 1) := by decide +kernel
theorem zd316_53 : decode zxm316.2.1 53 = .ok (.iload 4, 2) := by decide +kernel
theorem zd316_55 : decode zxm316.2.1 55 = .ok (.iadd, 1) := by decide +kernel
theorem zd316_56 : decode zxm316.2.1 56 = .ok (.iaload, 1) := by decide +kernel
theorem zd316_57 : decode zxm316.2.1 57 = .ok (.isub, 1) := by decide +kernel
theorem zd316_58 : decode zxm316.2.1 58 = .ok (.bipush 24, 2) := by decide +kernel
theorem zd316_60 : decode zxm316.2.1 60 = .ok (.iadd, 1) := by decide +kernel
theorem zd316_61 : decode zxm316.2.1 61 = .ok (.bipush 24, 2) := by decide +kernel
theorem zd316_63 : decode zxm316.2.1 63 = .ok (.irem, 1) := by decide +kernel
theorem zd316_64 : decode zxm316.2.1 64 = .ok (.ishl, 1) := by decide +kernel
theorem zd316_65 : decode zxm316.2.1 65 = .ok (.ior, 1) := by decide +kernel
theorem zd316_66 : decode zxm316.2.1 66 = .ok (.istore_n 3, 1) := by decide +kernel
theorem zd316_67 : decode zxm316.2.1 67 = .ok (.iinc 4 1, 3) := by decide +kernel
theorem zd316_70 : decode zxm316.2.1 70 = .ok (.goto (-55), 3) := by decide +kernel
theorem zd316_73 : decode zxm316.2.1 73 = .ok (.iload_n 3, 1) := by decide +kernel
theorem zd316_74 : decode zxm316.2.1 74 = .ok (.ireturn, 1) := by decide +kernel
theorem zt_M_over {x1 : Int} {x2 : Int} {g0 : (Int → Int)} {o : Int} (h : zf_M_over x1 x2 g0 = some o) : zv_Fn z_TB z_cl z_KX zy_M_over zxm316 (2, 120) [.inr 0, .inl x1, .inl x2] [] [g0] (some o) [] [g0] := zv_meth (K := (z_KF13, z_KC13, z_KL13, z_KT13, [], [], [], none)) (FT := z_FT) (MT := z_MT) (n := 3) zxp316 (z_ks13 _ (fun _ h => List.mem_cons_of_mem _ h) _ _ _ _ (fun j r h _ => by cases h)) (fun _ _ => zs_KX_p) zyw_M_over (fun va F G h => by obtain ⟨rfl, _⟩ := h; rfl) (fun va F G h => by obtain ⟨rfl, _⟩ := h; rfl) rfl fun good va F G hB hret hvret hP => by
  obtain ⟨rfl, rfl, rfl⟩ := hP
  have l0 : ∀ (n : Nat) (x1 : Int) (x2 : Int) (x3 : Int) (x4 : Int) (q : Int), zf_M_over_l0 x1 x2 g0 n x3 x4 = some q → (good 73 [.inr 1000, .inr 1000, .inr 1000, .inl q, .inr 1000] [] [] [g0]) → good 15 [.inr 0, .inl x1, .inl x2, .inl x3, .inl x4] [] [] [g0] := by
    intro n
    induction n with
    | zero => intro x1 x2 x3 x4 q h; exact absurd (show none = some q from h) (fun h => by cases h)
    | succ n ih =>
      intro x1 x2 x3 x4 q h hK
      replace h : zf_M_over_l0_b x1 x2 g0 (zf_M_over_l0 x1 x2 g0 n) x3 x4 = some q := h
      unfold zf_M_over_l0_b at h
      refine zv_ild hB zd316_15 rfl rfl ?_
      refine zv_con hB zd316_17 rfl ?_
      refine zv_cge hB zd316_19 rfl (fun hc3 => ?_) (fun hc3 => ?_)
      · rw [if_neg (Int.not_lt.mpr hc3)] at h
        have hq := Option.some.inj h
        subst hq
        refine zv_wk hB (L' := [.inr 1000, .inr 1000, .inr 1000, .inl x3, .inr 1000]) (F' := []) ⟨fun (h : zv_is (.inr 1000)) => (Nat.lt_irrefl 1000 h).elim, fun (h : zv_is (.inr 1000)) => (Nat.lt_irrefl 1000 h).elim, fun (h : zv_is (.inr 1000)) => (Nat.lt_irrefl 1000 h).elim, fun _ => rfl, fun (h : zv_is (.inr 1000)) => (Nat.lt_irrefl 1000 h).elim, trivial⟩ trivial ?_
        exact hK
      · rw [if_pos hc3] at h
        refine zv_ald hB zd316_22 rfl rfl rfl ?_
        refine zv_ild hB zd316_23 rfl rfl ?_
        obtain ⟨r4, hr4, h⟩ := zi_bind h
        refine zv_cv hB (zv_emq (va2 := [.inr 0, .inl x4]) (F := []) (F' := []) (G := [g0]) (G' := [g0]) (ρ := [0, 1]) (φ := []) (ψ := [0]) [] [some 0] zyw_M_isTold zyw_M_over zye_M_over (by decide +kernel) (zt_M_isTold hr4) trivial ⟨rfl, trivial⟩ rfl rfl rfl rfl rfl rfl rfl) zd316_25 zxt203 rfl (by decide) (by decide) rfl ?_
        refine zv_zeq hB zd316_28 rfl (fun hc5 => ?_) (fun hc5 => ?_)
        · rw [if_pos hc5] at h
          refine zv_iincw hB zd316_67 rfl rfl ?_
          refine zv_goto hB zd316_70 rfl ?_
          exact ih _ _ _ _ q h hK
        · rw [if_neg hc5] at h
          refine zv_ald hB zd316_31 rfl rfl rfl ?_
          refine zv_getr hB zd316_32 rfl ?_
          refine zv_con hB zd316_35 rfl ?_
          refine zv_ild hB zd316_37 rfl rfl ?_
          refine zv_addw hB zd316_39 ?_
          obtain ⟨c6, h⟩ := zi_if h
          refine zv_iald hB zd316_40 rfl rfl (zi_ix_ok c6).1 (zi_ix_ok c6).2 (fun _ _ => ?_)
          refine zv_ild hB zd316_41 rfl rfl ?_
          refine zv_cne hB zd316_42 rfl (fun hc7 => ?_) (fun hc7 => ?_)
          · rw [if_neg hc7] at h
            refine zv_iincw hB zd316_67 rfl rfl ?_
            refine zv_goto hB zd316_70 rfl ?_
            exact ih _ _ _ _ q h hK
          · rw [if_pos hc7] at h
            refine zv_ild hB zd316_45 rfl rfl ?_
            refine zv_con hB zd316_46 rfl ?_
            refine zv_ild hB zd316_47 rfl rfl ?_
            refine zv_ald hB zd316_48 rfl rfl rfl ?_
            refine zv_getr hB zd316_49 rfl ?_
            refine zv_con hB zd316_52 rfl ?_
            refine zv_ild hB zd316_53 rfl rfl ?_
            refine zv_addw hB zd316_55 ?_
            obtain ⟨c8, h⟩ := zi_if h
            refine zv_iald hB zd316_56 rfl rfl (zi_ix_ok c8).1 (zi_ix_ok c8).2 (fun _ _ => ?_)
            refine zv_subw hB zd316_57 ?_
            refine zv_con hB zd316_58 rfl ?_
            refine zv_addw hB zd316_60 ?_
            refine zv_con hB zd316_61 rfl ?_
            refine zv_remw hB zd316_63 (by decide) ?_
            refine zv_shlw hB zd316_64 ?_
            refine zv_orw hB zd316_65 ?_
            refine zv_ist hB zd316_66 rfl rfl rfl ?_
            refine zv_iincw hB zd316_67 rfl rfl ?_
            refine zv_goto hB zd316_70 rfl ?_
            exact ih _ _ _ _ q h hK
  unfold zf_M_over at h
  refine zv_ild hB zd316_0 rfl rfl ?_
  refine zv_ild hB zd316_1 rfl rfl ?_
  obtain ⟨r1, hr1, h⟩ := zi_bind h
  refine zv_cs hB (zv_emq (va2 := [.inl x1, .inl x2]) (F := []) (F' := []) (G := [g0]) (G' := [g0]) (ρ := []) (φ := []) (ψ := []) [] [none] zyw_M_isPlace zyw_M_over zye_M_over (by decide +kernel) (zt_M_isPlace hr1) trivial trivial rfl rfl rfl rfl rfl rfl rfl) zd316_2 zxt201 rfl (by decide) (by decide) rfl ?_
  refine zv_zne hB zd316_5 rfl (fun hc2 => ?_) (fun hc2 => ?_)
  · rw [if_neg hc2] at h
    refine zv_con hB zd316_10 rfl ?_
    refine zv_ist hB zd316_11 rfl rfl rfl ?_
    refine zv_con hB zd316_12 rfl ?_
    refine zv_ist hB zd316_13 rfl rfl rfl ?_
    obtain ⟨q9, hq9, h⟩ := zi_bind h
    refine l0 _ _ _ _ _ q9 hq9 ?_
    show good 73 [.inr 1000, .inr 1000, .inr 1000, .inl q9, .inr 1000] [] [] [g0]
    refine zv_ild hB zd316_73 rfl rfl ?_
    have hw := Option.some.inj h
    subst hw
    exact hret _ _ _ _ _ zd316_74 (by trivial) ⟨rfl, rfl, rfl⟩
  · rw [if_pos hc2] at h
    refine zv_con hB zd316_8 rfl ?_
    have hw := Option.some.inj h
    subst hw
    exact hret _ _ _ _ _ zd316_9 (by trivial) ⟨rfl, rfl, rfl⟩
/-! M_home (II)I -/
-- names: 0 StarTalesModel('arg', 0), 1 (0, 422)(0, 12, 0), 2 (0, 14)(0, 12, 21), 3 (0, 13)(0, 12, 26), 4 (0, 14)(0, 12, 23), 5 (0, 14)(0, 12, 24), 6 (0, 220)(0, 12, 20), 7 (0, 220)(0, 12, 25), 8 (0, 24)(0, 12, 28), 9 (0, 24)(0, 12, 59), 10 (0, 422)(0, 12, 1)
-- fields: f0 = 0.clauses_, f1 = 0.seen0_; arrays: g0 = 1, g1 = 2, g2 = 3, g3 = 4, g4 = 5, g5 = 6, g6 = 7, g7 = 8, g8 = 9, g9 = 10; out: [('ret', None), ('f', 1), ('g', 0), ('g', 2), ('g', 6), ('g', 7), ('g', 8), ('g', 9)]
abbrev zy_M_home : zNL := (11, [(0, 12)], [(0, 12, 13, 0), (0, 12, 27, 1)], [(0, 12, 0, 1), (0, 12, 21, 2), (0, 12, 26, 3), (0, 12, 23, 4), (0, 12, 24, 5), (0, 12, 20, 6), (0, 12, 25, 7), (0, 12, 28, 8), (0, 12, 59, 9), (0, 12, 1, 10)], [(1, 0, 422, 0), (2, 0, 14, 1), (3, 0, 13, 2), (4, 0, 14, 3), (5, 0, 14, 4), (6, 0, 220, 5), (7, 0, 220, 6), (8, 0, 24, 7), (9, 0, 24, 8), (10, 0, 422, 9)])
theorem zyw_M_home : zv_wf zy_M_home = true := by decide +kernel
theorem zye_M_home : zv_ek2 zy_M_home = true := by decide +kernel
def zf_M_home_l0_b (g7 : (Int → Int)) (rec : Int → (Int → Int) → Option ((Int → Int))) (x5 : Int) (g8 : (Int → Int)) : Option ((Int → Int)) := if x5 < 24 then (cond (zi_ix x5 24) (rec (zi_w (x5 + 1)) (zv_up g8 x5 (g7 x5))) none) else (some g8)
def zf_M_home_l0 (g7 : (Int → Int)) : Nat → Int → (Int → Int) → Option ((Int → Int))
  | 0, _, _ => none
  | n + 1, x5, g8 => zf_M_home_l0_b g7 (zf_M_home_l0 g7 n) x5 g8
def zf_M_home_l2_b (g7 : (Int → Int)) (g8 : (Int → Int)) (rec : Int → Int → Option (Int)) (x7 : Int) (x8 : Int) : Option (Int) := if x8 < 24 then (if x7 = 0 then (rec 0 (zi_w (x8 + 1))) else (cond (zi_ix x8 24) (if (g7 x8) = (g8 x8) then (rec 1 (zi_w (x8 + 1))) else (rec 0 (zi_w (x8 + 1)))) none)) else (some x7)
def zf_M_home_l2 (g7 : (Int → Int)) (g8 : (Int → Int)) : Nat → Int → Int → Option (Int)
  | 0, _, _ => none
  | n + 1, x7, x8 => zf_M_home_l2_b g7 g8 (zf_M_home_l2 g7 g8 n) x7 x8
def zf_M_home_l1_b (x3 : Int) (x4 : Int) (f0 : Int) (g1 : (Int → Int)) (g3 : (Int → Int)) (g4 : (Int → Int)) (g5 : (Int → Int)) (g8 : (Int → Int)) (rec : Int → Int → Int → (Int → Int) → (Int → Int) → (Int → Int) → (Int → Int) → Option (Int × Int × (Int → Int) × (Int → Int) × (Int → Int) × (Int → Int))) (x5 : Int) (x6 : Int) (f1 : Int) (g0 : (Int → Int)) (g2 : (Int → Int)) (g6 : (Int → Int)) (g7 : (Int → Int)) : Option (Int × Int × (Int → Int) × (Int → Int) × (Int → Int) × (Int → Int)) := if 60 < x6 then (some (x5, f1, g0, g2, g6, g7)) else (if x5 = (-2) then ((zf_M_walks (zv_up g0 129 (zi_w ((g0 129) + 1)))).bind fun r10 => ((zf_M_looks x3 f0 f1 r10 g1 g2 g3 g4 g5 g6 g7).bind fun r11 => (if r11.1 = x4 then ((zf_M_home_l2 r11.2.2.2 g8 zi_fu 1 0).bind fun q19 => (if q19 = 0 then (rec x5 (zi_w (x6 + 1)) r11.1 r10 r11.2.1 r11.2.2.1 r11.2.2.2) else (rec x6 (zi_w (x6 + 1)) r11.1 r10 r11.2.1 r11.2.2.1 r11.2.2.2))) else ((zf_M_home_l2 r11.2.2.2 g8 zi_fu 0 0).bind fun q17 => (if q17 = 0 then (rec x5 (zi_w (x6 + 1)) r11.1 r10 r11.2.1 r11.2.2.1 r11.2.2.2) else (rec x6 (zi_w (x6 + 1)) r11.1 r10 r11.2.1 r11.2.2.1 r11.2.2.2)))))) else (some (x5, f1, g0, g2, g6, g7)))
def zf_M_home_l1 (x3 : Int) (x4 : Int) (f0 : Int) (g1 : (Int → Int)) (g3 : (Int → Int)) (g4 : (Int → Int)) (g5 : (Int → Int)) (g8 : (Int → Int)) : Nat → Int → Int → Int → (Int → Int) → (Int → Int) → (Int → Int) → (Int → Int) → Option (Int × Int × (Int → Int) × (Int → Int) × (Int → Int) × (Int → Int))
  | 0, _, _, _, _, _, _, _ => none
  | n + 1, x5, x6, f1, g0, g2, g6, g7 => zf_M_home_l1_b x3 x4 f0 g1 g3 g4 g5 g8 (zf_M_home_l1 x3 x4 f0 g1 g3 g4 g5 g8 n) x5 x6 f1 g0 g2 g6 g7
def zf_M_home (x1 : Int) (x2 : Int) (f0 : Int) (f1 : Int) (g0 : (Int → Int)) (g1 : (Int → Int)) (g2 : (Int → Int)) (g3 : (Int → Int)) (g4 : (Int → Int)) (g5 : (Int → Int)) (g6 : (Int → Int)) (g7 : (Int → Int)) (g8 : (Int → Int)) (g9 : (Int → Int)) : Option (Int × Int × (Int → Int) × (Int → Int) × (Int → Int) × (Int → Int) × (Int → Int) × (Int → Int)) := (zf_M_isPlace x1 x2).bind fun r1 => (if r1 = 0 then (some ((-1), f1, g0, g2, g6, g7, g8, g9)) else ((zf_M_looks (zi_w ((zi_w (24 * x2)) + x1)) f0 f1 g0 g1 g2 g3 g4 g5 g6 g7).bind fun r3 => ((zf_M_home_l0 r3.2.2.2 zi_fu 0 g8).bind fun q6 => ((zf_M_begins g0 g9).bind fun r7 => ((zf_M_home_l1 (zi_w ((zi_w (24 * x2)) + x1)) r3.1 f0 g1 g3 g4 g5 q6 zi_fu (-2) 1 r3.1 g0 r3.2.1 r3.2.2.1 r3.2.2.2).bind fun q21 => ((zf_M_again r7 q21.2.2.1).bind fun r22 => (some (q21.1, q21.2.1, r22, q21.2.2.2.1, q21.2.2.2.2.1, q21.2.2.2.2.2, q6, r7))))))))
theorem zd317_0 : decode zxm317.2.1 0 = .ok (.iload_n 1, 1) := by decide +kernel
theorem zd317_1 : decode zxm317.2.1 1 = .ok (.iload_n 2, 1) := by decide +kernel
theorem zd317_2 : decode zxm317.2.1 2 = .ok (.invokestatic 154, 3) := by decide +kernel
theorem zd317_5 : decode zxm317.2.1 5 = .ok (.ifCond .ne 5, 3) := by decide +kernel
theorem zd317_8 : decode zxm317.2.1 8 = .ok (.iconst (-1), 1) := by decide +kernel
theorem zd317_9 : decode zxm317.2.1 9 = .ok (.ireturn, 1) := by decide +kernel
theorem zd317_10 : decode zxm317.2.1 10 = .ok (.bipush 24, 2) := by decide +kernel
theorem zd317_12 : decode zxm317.2.1 12 = .ok (.iload_n 2, 1) := by decide +kernel
theorem zd317_13 : decode zxm317.2.1 13 = .ok (.imul, 1) := by decide +kernel
theorem zd317_14 : decode zxm317.2.1 14 = .ok (.iload_n 1, 1) := by decide +kernel
theorem zd317_15 : decode zxm317.2.1 15 = .ok (.iadd, 1) := by decide +kernel
theorem zd317_16 : decode zxm317.2.1 16 = .ok (.istore_n 3, 1) := by decide +kernel
theorem zd317_17 : decode zxm317.2.1 17 = .ok (.aload_n 0, 1) := by decide +kernel
theorem zd317_18 : decode zxm317.2.1 18 = .ok (.iload_n 3, 1) := by decide +kernel
theorem zd317_19 : decode zxm317.2.1 19 = .ok (.invokevirtual 309, 3) := by decide +kernel
theorem zd317_22 : decode zxm317.2.1 22 = .ok (.aload_n 0, 1) := by decide +kernel
theorem zd317_23 : decode zxm317.2.1 23 = .ok (.getfield 303, 3) := by decide +kernel
theorem zd317_26 : decode zxm317.2.1 26 = .ok (.istore 4, 2) := by decide +kernel
theorem zd317_28 : decode zxm317.2.1 28 = .ok (.iconst 0, 1) := by decide +kernel
theorem zd317_29 : decode zxm317.2.1 29 = .ok (.istore 5, 2) := by decide +kernel
theorem zd317_31 : decode zxm317.2.1 31 = .ok (.iload 5, 2) := by decide +kernel
theorem zd317_33 : decode zxm317.2.1 33 = .ok (.bipush 24, 2) := by decide +kernel
theorem zd317_35 : decode zxm317.2.1 35 = .ok (.if_icmp .ge 23, 3) := by decide +kernel
theorem zd317_38 : decode zxm317.2.1 38 = .ok (.aload_n 0, 1) := by decide +kernel
theorem zd317_39 : decode zxm317.2.1 39 = .ok (.getfield 122, 3) := by decide +kernel
theorem zd317_42 : decode zxm317.2.1 42 = .ok (.iload 5, 2) := by decide +kernel
theorem zd317_44 : decode zxm317.2.1 44 = .ok (.aload_n 0, 1) := by decide +kernel
theorem zd317_45 : decode zxm317.2.1 45 = .ok (.getfield 62, 3) := by decide +kernel
theorem zd317_48 : decode zxm317.2.1 48 = .ok (.iload 5, 2) := by decide +kernel
theorem zd317_50 : decode zxm317.2.1 50 = .ok (.iaload, 1) := by decide +kernel
theorem zd317_51 : decode zxm317.2.1 51 = .ok (.iastore, 1) := by decide +kernel
theorem zd317_52 : decode zxm317.2.1 52 = .ok (.iinc 5 1, 3) := by decide +kernel
theorem zd317_55 : decode zxm317.2.1 55 = .ok (.goto (-24), 3) := by decide +kernel
theorem zd317_58 : decode zxm317.2.1 58 = .ok (.aload_n 0, 1) := by decide +kernel
theorem zd317_59 : decode zxm317.2.1 59 = .ok (.invokevirtual 434, 3) := by decide +kernel
theorem zd317_62 : decode zxm317.2.1 62 = .ok (.bipush (-2), 2) := by decide +kernel
theorem zd317_64 : decode zxm317.2.1 64 = .ok (.istore 5, 2) := by decide +kernel
theorem zd317_66 : decode zxm317.2.1 66 = .ok (.iconst 1, 1) := by decide +kernel
theorem zd317_67 : decode zxm317.2.1 67 = .ok (.istore 6, 2) := by decide +kernel
theorem zd317_69 : decode zxm317.2.1 69 = .ok (.iload 6, 2) := by decide +kernel
theorem zd317_71 : decode zxm317.2.1 71 = .ok (.bipush 60, 2) := by decide +kernel
theorem zd317_73 : decode zxm317.2.1 73 = .ok (.if_icmp .gt 113, 3) := by decide +kernel
theorem zd317_76 : decode zxm317.2.1 76 = .ok (.iload 5, 2) := by decide +kernel
theorem zd317_78 : decode zxm317.2.1 78 = .ok (.bipush (-2), 2) := by decide +kernel
theorem zd317_80 : decode zxm317.2.1 80 = .ok (.if_icmp .ne 106, 3) := by decide +kernel
theorem zd317_83 : decode zxm317.2.1 83 = .ok (.aload_n 0, 1) := by decide +kernel
theorem zd317_84 : decode zxm317.2.1 84 = .ok (.getfield 7, 3) := by decide +kernel
theorem zd317_87 : decode zxm317.2.1 87 = .ok (.sipush 129, 3) := by decide +kernel
theorem zd317_90 : decode zxm317.2.1 90 = .ok (.aload_n 0, 1) := by decide +kernel
theorem zd317_91 : decode zxm317.2.1 91 = .ok (.getfield 7, 3) := by decide +kernel
theorem zd317_94 : decode zxm317.2.1 94 = .ok (.sipush 129, 3) := by decide +kernel
theorem zd317_97 : decode zxm317.2.1 97 = .ok (.iaload, 1) := by decide +kernel
theorem zd317_98 : decode zxm317.2.1 98 = .ok (.iconst 1, 1) := by decide +kernel
theorem zd317_99 : decode zxm317.2.1 99 = .ok (.iadd, 1) := by decide +kernel
theorem zd317_100 : decode zxm317.2.1 100 = .ok (.iastore, 1) := by decide +kernel
theorem zd317_101 : decode zxm317.2.1 101 = .ok (.aload_n 0, 1) := by decide +kernel
theorem zd317_102 : decode zxm317.2.1 102 = .ok (.invokevirtual 414, 3) := by decide +kernel
theorem zd317_105 : decode zxm317.2.1 105 = .ok (.aload_n 0, 1) := by decide +kernel
theorem zd317_106 : decode zxm317.2.1 106 = .ok (.iload_n 3, 1) := by decide +kernel
theorem zd317_107 : decode zxm317.2.1 107 = .ok (.invokevirtual 309, 3) := by decide +kernel
theorem zd317_110 : decode zxm317.2.1 110 = .ok (.aload_n 0, 1) := by decide +kernel
theorem zd317_111 : decode zxm317.2.1 111 = .ok (.getfield 303, 3) := by decide +kernel
theorem zd317_114 : decode zxm317.2.1 114 = .ok (.iload 4, 2) := by decide +kernel
theorem zd317_116 : decode zxm317.2.1 116 = .ok (.if_icmp .ne 7, 3) := by decide +kernel
theorem zd317_119 : decode zxm317.2.1 119 = .ok (.iconst 1, 1) := by decide +kernel
theorem zd317_120 : decode zxm317.2.1 120 = .ok (.goto 4, 3) := by decide +kernel
theorem zd317_123 : decode zxm317.2.1 123 = .ok (.iconst 0, 1) := by decide +kernel
theorem zd317_124 : decode zxm317.2.1 124 = .ok (.istore 7, 2) := by decide +kernel
theorem zd317_126 : decode zxm317.2.1 126 = .ok (.iconst 0, 1) := by decide +kernel
theorem zd317_127 : decode zxm317.2.1 127 = .ok (.istore 8, 2) := by decide +kernel
theorem zd317_129 : decode zxm317.2.1 129 = .ok (.iload 8, 2) := by decide +kernel
theorem zd317_131 : decode zxm317.2.1 131 = .ok (.bipush 24, 2) := by decide +kernel
theorem zd317_133 : decode zxm317.2.1 133 = .ok (.if_icmp .ge 38, 3) := by decide +kernel
theorem zd317_136 : decode zxm317.2.1 136 = .ok (.iload 7, 2) := by decide +kernel
theorem zd317_138 : decode zxm317.2.1 138 = .ok (.ifCond .eq 24, 3) := by decide +kernel
theorem zd317_141 : decode zxm317.2.1 141 = .ok (.aload_n 0, 1) := by decide +kernel
theorem zd317_142 : decode zxm317.2.1 142 = .ok (.getfield 62, 3) := by decide +kernel
theorem zd317_145 : decode zxm317.2.1 145 = .ok (.iload 8, 2) := by decide +kernel
theorem zd317_147 : decode zxm317.2.1 147 = .ok (.iaload, 1) := by decide +kernel
theorem zd317_148 : decode zxm317.2.1 148 = .ok (.aload_n 0, 1) := by decide +kernel
theorem zd317_149 : decode zxm317.2.1 149 = .ok (.getfield 122, 3) := by decide +kernel
theorem zd317_152 : decode zxm317.2.1 152 = .ok (.iload 8, 2) := by decide +kernel
theorem zd317_154 : decode zxm317.2.1 154 = .ok (.iaload, 1) := by decide +kernel
theorem zd317_155 : decode zxm317.2.1 155 = .ok (.if_icmp .ne 7, 3) := by decide +kernel
theorem zd317_158 : decode zxm317.2.1 158 = .ok (.iconst 1, 1) := by decide +kernel
theorem zd317_159 : decode zxm317.2.1 159 = .ok (.goto 4, 3) := by decide +kernel
theorem zd317_162 : decode zxm317.2.1 162 = .ok (.iconst 0, 1) := by decide +kernel
theorem zd317_163 : decode zxm317.2.1 163 = .ok (.istore 7, 2) := by decide +kernel
theorem zd317_165 : decode zxm317.2.1 165 = .ok (.iinc 8 1, 3) := by decide +kernel
theorem zd317_168 : decode zxm317.2.1 168 = .ok (.goto (-39), 3) := by decide +kernel
theorem zd317_171 : decode zxm317.2.1 171 = .ok (.iload 7, 2) := by decide +kernel
theorem zd317_173 : decode zxm317.2.1 173 = .ok (.ifCond .eq 7, 3) := by decide +kernel
theorem zd317_176 : decode zxm317.2.1 176 = .ok (.iload 6, 2) := by decide +kernel
theorem zd317_178 : decode zxm317.2.1 178 = .ok (.istore 5, 2) := by decide +kernel
theorem zd317_180 : decode zxm317.2.1 180 = .ok (.iinc 6 1, 3) := by decide +kernel
theorem zd317_183 : decode zxm317.2.1 183 = .ok (.goto (-114), 3) := by decide +kernel
theorem zd317_186 : decode zxm317.2.1 186 = .ok (.aload_n 0, 1) := by decide +kernel
theorem zd317_187 : decode zxm317.2.1 187 = .ok (.invokevirtual 437, 3) := by decide +kernel
theorem zd317_190 : decode zxm317.2.1 190 = .ok (.iload 5, 2) := by decide +kernel
theorem zd317_192 : decode zxm317.2.1 192 = .ok (.ireturn, 1) := by decide +kernel
theorem zt_M_home {x1 : Int} {x2 : Int} {f0 : Int} {f1 : Int} {g0 : (Int → Int)} {g1 : (Int → Int)} {g2 : (Int → Int)} {g3 : (Int → Int)} {g4 : (Int → Int)} {g5 : (Int → Int)} {g6 : (Int → Int)} {g7 : (Int → Int)} {g8 : (Int → Int)} {g9 : (Int → Int)} {o : Int × Int × (Int → Int) × (Int → Int) × (Int → Int) × (Int → Int) × (Int → Int) × (Int → Int)} (h : zf_M_home x1 x2 f0 f1 g0 g1 g2 g3 g4 g5 g6 g7 g8 g9 = some o) : zv_Fn z_TB z_cl z_KX zy_M_home zxm317 (6, 360) [.inr 0, .inl x1, .inl x2] [.inl f0, .inl f1] [g0, g1, g2, g3, g4, g5, g6, g7, g8, g9] (some o.1) [.inl f0, .inl o.2.1] [o.2.2.1, g1, o.2.2.2.1, g3, g4, g5, o.2.2.2.2.1, o.2.2.2.2.2.1, o.2.2.2.2.2.2.1, o.2.2.2.2.2.2.2] := zv_meth (K := (z_KF13, z_KC13, z_KL13, z_KT13, [], [], [], none)) (FT := z_FT) (MT := z_MT) (n := 3) zxp317 (z_ks13 _ (fun _ h => List.mem_cons_of_mem _ h) _ _ _ _ (fun j r h _ => by cases h)) (fun _ _ => zs_KX_p) zyw_M_home (fun va F G h => by obtain ⟨rfl, _⟩ := h; rfl) (fun va F G h => by obtain ⟨rfl, _⟩ := h; rfl) rfl fun good va F G hB hret hvret hP => by
  obtain ⟨rfl, rfl, rfl⟩ := hP
  have l0 : ∀ (n : Nat) (x3 : Int) (x4 : Int) (x5 : Int) (f1 : Int) (g0 : (Int → Int)) (g2 : (Int → Int)) (g6 : (Int → Int)) (g7 : (Int → Int)) (g8 : (Int → Int)) (g9 : (Int → Int)) (q : (Int → Int)), zf_M_home_l0 g7 n x5 g8 = some q → (good 58 [.inr 0, .inr 1000, .inr 1000, .inl x3, .inl x4, .inr 1000, .inr 1000, .inr 1000, .inr 1000] [] [.inl f0, .inl f1] [g0, g1, g2, g3, g4, g5, g6, g7, q, g9]) → good 31 [.inr 0, .inr 1000, .inr 1000, .inl x3, .inl x4, .inl x5, .inr 1000, .inr 1000, .inr 1000] [] [.inl f0, .inl f1] [g0, g1, g2, g3, g4, g5, g6, g7, g8, g9] := by
    intro n
    induction n with
    | zero => intro x3 x4 x5 f1 g0 g2 g6 g7 g8 g9 q h; exact absurd (show none = some q from h) (fun h => by cases h)
    | succ n ih =>
      intro x3 x4 x5 f1 g0 g2 g6 g7 g8 g9 q h hK
      replace h : zf_M_home_l0_b g7 (zf_M_home_l0 g7 n) x5 g8 = some q := h
      unfold zf_M_home_l0_b at h
      refine zv_ild hB zd317_31 rfl rfl ?_
      refine zv_con hB zd317_33 rfl ?_
      refine zv_cge hB zd317_35 rfl (fun hc4 => ?_) (fun hc4 => ?_)
      · rw [if_neg (Int.not_lt.mpr hc4)] at h
        have hq := Option.some.inj h
        subst hq
        refine zv_wk hB (L' := [.inr 0, .inr 1000, .inr 1000, .inl x3, .inl x4, .inr 1000, .inr 1000, .inr 1000, .inr 1000]) (F' := [.inl f0, .inl f1]) ⟨fun _ => rfl, fun (h : zv_is (.inr 1000)) => (Nat.lt_irrefl 1000 h).elim, fun (h : zv_is (.inr 1000)) => (Nat.lt_irrefl 1000 h).elim, fun _ => rfl, fun _ => rfl, fun (h : zv_is (.inr 1000)) => (Nat.lt_irrefl 1000 h).elim, fun (h : zv_is (.inr 1000)) => (Nat.lt_irrefl 1000 h).elim, fun (h : zv_is (.inr 1000)) => (Nat.lt_irrefl 1000 h).elim, fun (h : zv_is (.inr 1000)) => (Nat.lt_irrefl 1000 h).elim, trivial⟩ ⟨fun _ => rfl, fun _ => rfl, trivial⟩ ?_
        exact hK
      · rw [if_pos hc4] at h
        refine zv_ald hB zd317_38 rfl rfl rfl ?_
        refine zv_getr hB zd317_39 rfl ?_
        refine zv_ild hB zd317_42 rfl rfl ?_
        refine zv_ald hB zd317_44 rfl rfl rfl ?_
        refine zv_getr hB zd317_45 rfl ?_
        refine zv_ild hB zd317_48 rfl rfl ?_
        obtain ⟨c5, h⟩ := zi_if h
        refine zv_iald hB zd317_50 rfl rfl (zi_ix_ok c5).1 (zi_ix_ok c5).2 (fun _ _ => ?_)
        refine zv_iast hB zd317_51 rfl rfl (zi_ix_ok c5).1 (zi_ix_ok c5).2 ?_
        refine zv_iincw hB zd317_52 rfl rfl ?_
        refine zv_goto hB zd317_55 rfl ?_
        exact ih _ _ _ _ _ _ _ _ _ _ q h hK
  have l2 : ∀ (n : Nat) (x3 : Int) (x4 : Int) (x5 : Int) (x6 : Int) (x7 : Int) (x8 : Int) (f1 : Int) (g0 : (Int → Int)) (g2 : (Int → Int)) (g6 : (Int → Int)) (g7 : (Int → Int)) (g8 : (Int → Int)) (g9 : (Int → Int)) (q : Int), zf_M_home_l2 g7 g8 n x7 x8 = some q → (good 171 [.inr 0, .inr 1000, .inr 1000, .inl x3, .inl x4, .inl x5, .inl x6, .inl q, .inr 1000] [] [.inl f0, .inl f1] [g0, g1, g2, g3, g4, g5, g6, g7, g8, g9]) → good 129 [.inr 0, .inr 1000, .inr 1000, .inl x3, .inl x4, .inl x5, .inl x6, .inl x7, .inl x8] [] [.inl f0, .inl f1] [g0, g1, g2, g3, g4, g5, g6, g7, g8, g9] := by
    intro n
    induction n with
    | zero => intro x3 x4 x5 x6 x7 x8 f1 g0 g2 g6 g7 g8 g9 q h; exact absurd (show none = some q from h) (fun h => by cases h)
    | succ n ih =>
      intro x3 x4 x5 x6 x7 x8 f1 g0 g2 g6 g7 g8 g9 q h hK
      replace h : zf_M_home_l2_b g7 g8 (zf_M_home_l2 g7 g8 n) x7 x8 = some q := h
      unfold zf_M_home_l2_b at h
      refine zv_ild hB zd317_129 rfl rfl ?_
      refine zv_con hB zd317_131 rfl ?_
      refine zv_cge hB zd317_133 rfl (fun hc13 => ?_) (fun hc13 => ?_)
      · rw [if_neg (Int.not_lt.mpr hc13)] at h
        have hq := Option.some.inj h
        subst hq
        refine zv_wk hB (L' := [.inr 0, .inr 1000, .inr 1000, .inl x3, .inl x4, .inl x5, .inl x6, .inl x7, .inr 1000]) (F' := [.inl f0, .inl f1]) ⟨fun _ => rfl, fun (h : zv_is (.inr 1000)) => (Nat.lt_irrefl 1000 h).elim, fun (h : zv_is (.inr 1000)) => (Nat.lt_irrefl 1000 h).elim, fun _ => rfl, fun _ => rfl, fun _ => rfl, fun _ => rfl, fun _ => rfl, fun (h : zv_is (.inr 1000)) => (Nat.lt_irrefl 1000 h).elim, trivial⟩ ⟨fun _ => rfl, fun _ => rfl, trivial⟩ ?_
        exact hK
      · rw [if_pos hc13] at h
        refine zv_ild hB zd317_136 rfl rfl ?_
        refine zv_zeq hB zd317_138 rfl (fun hc14 => ?_) (fun hc14 => ?_)
        · rw [if_pos hc14] at h
          refine zv_con hB zd317_162 rfl ?_
          refine zv_ist hB zd317_163 rfl rfl rfl ?_
          refine zv_iincw hB zd317_165 rfl rfl ?_
          refine zv_goto hB zd317_168 rfl ?_
          exact ih _ _ _ _ _ _ _ _ _ _ _ _ _ q h hK
        · rw [if_neg hc14] at h
          refine zv_ald hB zd317_141 rfl rfl rfl ?_
          refine zv_getr hB zd317_142 rfl ?_
          refine zv_ild hB zd317_145 rfl rfl ?_
          obtain ⟨c15, h⟩ := zi_if h
          refine zv_iald hB zd317_147 rfl rfl (zi_ix_ok c15).1 (zi_ix_ok c15).2 (fun _ _ => ?_)
          refine zv_ald hB zd317_148 rfl rfl rfl ?_
          refine zv_getr hB zd317_149 rfl ?_
          refine zv_ild hB zd317_152 rfl rfl ?_
          refine zv_iald hB zd317_154 rfl rfl (zi_ix_ok c15).1 (zi_ix_ok c15).2 (fun _ _ => ?_)
          refine zv_cne hB zd317_155 rfl (fun hc16 => ?_) (fun hc16 => ?_)
          · rw [if_neg hc16] at h
            refine zv_con hB zd317_162 rfl ?_
            refine zv_ist hB zd317_163 rfl rfl rfl ?_
            refine zv_iincw hB zd317_165 rfl rfl ?_
            refine zv_goto hB zd317_168 rfl ?_
            exact ih _ _ _ _ _ _ _ _ _ _ _ _ _ q h hK
          · rw [if_pos hc16] at h
            refine zv_con hB zd317_158 rfl ?_
            refine zv_goto hB zd317_159 rfl ?_
            refine zv_ist hB zd317_163 rfl rfl rfl ?_
            refine zv_iincw hB zd317_165 rfl rfl ?_
            refine zv_goto hB zd317_168 rfl ?_
            exact ih _ _ _ _ _ _ _ _ _ _ _ _ _ q h hK
  have l1 : ∀ (n : Nat) (x3 : Int) (x4 : Int) (x5 : Int) (x6 : Int) (f1 : Int) (g0 : (Int → Int)) (g2 : (Int → Int)) (g6 : (Int → Int)) (g7 : (Int → Int)) (g8 : (Int → Int)) (g9 : (Int → Int)) (q : Int × Int × (Int → Int) × (Int → Int) × (Int → Int) × (Int → Int)), zf_M_home_l1 x3 x4 f0 g1 g3 g4 g5 g8 n x5 x6 f1 g0 g2 g6 g7 = some q → (good 186 [.inr 0, .inr 1000, .inr 1000, .inr 1000, .inr 1000, .inl q.1, .inr 1000, .inr 1000, .inr 1000] [] [.inl f0, .inl q.2.1] [q.2.2.1, g1, q.2.2.2.1, g3, g4, g5, q.2.2.2.2.1, q.2.2.2.2.2, g8, g9]) → good 69 [.inr 0, .inr 1000, .inr 1000, .inl x3, .inl x4, .inl x5, .inl x6, .inr 1000, .inr 1000] [] [.inl f0, .inl f1] [g0, g1, g2, g3, g4, g5, g6, g7, g8, g9] := by
    intro n
    induction n with
    | zero => intro x3 x4 x5 x6 f1 g0 g2 g6 g7 g8 g9 q h; exact absurd (show none = some q from h) (fun h => by cases h)
    | succ n ih =>
      intro x3 x4 x5 x6 f1 g0 g2 g6 g7 g8 g9 q h hK
      replace h : zf_M_home_l1_b x3 x4 f0 g1 g3 g4 g5 g8 (zf_M_home_l1 x3 x4 f0 g1 g3 g4 g5 g8 n) x5 x6 f1 g0 g2 g6 g7 = some q := h
      unfold zf_M_home_l1_b at h
      refine zv_ild hB zd317_69 rfl rfl ?_
      refine zv_con hB zd317_71 rfl ?_
      refine zv_cgt hB zd317_73 rfl (fun hc8 => ?_) (fun hc8 => ?_)
      · rw [if_pos hc8] at h
        have hq := Option.some.inj h
        subst hq
        refine zv_wk hB (L' := [.inr 0, .inr 1000, .inr 1000, .inr 1000, .inr 1000, .inl x5, .inr 1000, .inr 1000, .inr 1000]) (F' := [.inl f0, .inl f1]) ⟨fun _ => rfl, fun (h : zv_is (.inr 1000)) => (Nat.lt_irrefl 1000 h).elim, fun (h : zv_is (.inr 1000)) => (Nat.lt_irrefl 1000 h).elim, fun (h : zv_is (.inr 1000)) => (Nat.lt_irrefl 1000 h).elim, fun (h : zv_is (.inr 1000)) => (Nat.lt_irrefl 1000 h).elim, fun _ => rfl, fun (h : zv_is (.inr 1000)) => (Nat.lt_irrefl 1000 h).elim, fun (h : zv_is (.inr 1000)) => (Nat.lt_irrefl 1000 h).elim, fun (h : zv_is (.inr 1000)) => (Nat.lt_irrefl 1000 h).elim, trivial⟩ ⟨fun _ => rfl, fun _ => rfl, trivial⟩ ?_
        exact hK
      · rw [if_neg (Int.not_lt.mpr hc8)] at h
        refine zv_ild hB zd317_76 rfl rfl ?_
        refine zv_con hB zd317_78 rfl ?_
        refine zv_cne hB zd317_80 rfl (fun hc9 => ?_) (fun hc9 => ?_)
        · rw [if_neg hc9] at h
          have hq := Option.some.inj h
          subst hq
          refine zv_wk hB (L' := [.inr 0, .inr 1000, .inr 1000, .inr 1000, .inr 1000, .inl x5, .inr 1000, .inr 1000, .inr 1000]) (F' := [.inl f0, .inl f1]) ⟨fun _ => rfl, fun (h : zv_is (.inr 1000)) => (Nat.lt_irrefl 1000 h).elim, fun (h : zv_is (.inr 1000)) => (Nat.lt_irrefl 1000 h).elim, fun (h : zv_is (.inr 1000)) => (Nat.lt_irrefl 1000 h).elim, fun (h : zv_is (.inr 1000)) => (Nat.lt_irrefl 1000 h).elim, fun _ => rfl, fun (h : zv_is (.inr 1000)) => (Nat.lt_irrefl 1000 h).elim, fun (h : zv_is (.inr 1000)) => (Nat.lt_irrefl 1000 h).elim, fun (h : zv_is (.inr 1000)) => (Nat.lt_irrefl 1000 h).elim, trivial⟩ ⟨fun _ => rfl, fun _ => rfl, trivial⟩ ?_
          exact hK
        · rw [if_pos hc9] at h
          refine zv_ald hB zd317_83 rfl rfl rfl ?_
          refine zv_getr hB zd317_84 rfl ?_
          refine zv_con hB zd317_87 rfl ?_
          refine zv_ald hB zd317_90 rfl rfl rfl ?_
          refine zv_getr hB zd317_91 rfl ?_
          refine zv_con hB zd317_94 rfl ?_
          refine zv_iald hB zd317_97 rfl rfl (by decide) (by decide) (fun _ _ => ?_)
          refine zv_con hB zd317_98 rfl ?_
          refine zv_addw hB zd317_99 ?_
          refine zv_iast hB zd317_100 rfl rfl (by decide) (by decide) ?_
          refine zv_ald hB zd317_101 rfl rfl rfl ?_
          obtain ⟨r10, hr10, h⟩ := zi_bind h
          refine zv_cv hB (zv_emq (va2 := [.inr 0]) (F := [.inl f0, .inl f1]) (F' := [.inl f0, .inl f1]) (G := [(zv_up g0 129 (zi_w ((g0 129) + 1))), g1, g2, g3, g4, g5, g6, g7, g8, g9]) (G' := [r10, g1, g2, g3, g4, g5, g6, g7, g8, g9]) (ρ := [0, 1]) (φ := []) (ψ := [0]) [none, none] [some 0, none, none, none, none, none, none, none, none, none] zyw_M_walks zyw_M_home zye_M_home (by decide +kernel) (zt_M_walks hr10) trivial ⟨rfl, trivial⟩ rfl rfl rfl rfl rfl rfl rfl) zd317_102 zxt295 rfl (by decide) (by decide) rfl ?_
          refine zv_ald hB zd317_105 rfl rfl rfl ?_
          refine zv_ild hB zd317_106 rfl rfl ?_
          obtain ⟨r11, hr11, h⟩ := zi_bind h
          refine zv_cv hB (zv_emq (va2 := [.inr 0, .inl x3]) (F := [.inl f0, .inl f1]) (F' := [.inl f0, .inl r11.1]) (G := [r10, g1, g2, g3, g4, g5, g6, g7, g8, g9]) (G' := [r10, g1, r11.2.1, g3, g4, g5, r11.2.2.1, r11.2.2.2, g8, g9]) (ρ := [0, 1, 2, 3, 4, 5, 6, 7, 8]) (φ := [0, 1]) (ψ := [0, 1, 2, 3, 4, 5, 6, 7]) [some 0, some 1] [some 0, some 1, some 2, some 3, some 4, some 5, some 6, some 7, none, none] zyw_M_looks zyw_M_home zye_M_home (by decide +kernel) (zt_M_looks hr11) ⟨⟨_, rfl, fun _ => rfl⟩, ⟨_, rfl, fun _ => rfl⟩, trivial⟩ ⟨rfl, rfl, rfl, rfl, rfl, rfl, rfl, rfl, trivial⟩ rfl rfl rfl rfl rfl rfl rfl) zd317_107 zxt252 rfl (by decide) (by decide) rfl ?_
          refine zv_ald hB zd317_110 rfl rfl rfl ?_
          refine zv_getf hB zd317_111 rfl rfl (fun _ _ => ?_)
          refine zv_ild hB zd317_114 rfl rfl ?_
          refine zv_cne hB zd317_116 rfl (fun hc12 => ?_) (fun hc12 => ?_)
          · rw [if_neg hc12] at h
            refine zv_con hB zd317_123 rfl ?_
            refine zv_ist hB zd317_124 rfl rfl rfl ?_
            refine zv_con hB zd317_126 rfl ?_
            refine zv_ist hB zd317_127 rfl rfl rfl ?_
            obtain ⟨q17, hq17, h⟩ := zi_bind h
            refine l2 _ _ _ _ _ _ _ _ _ _ _ _ _ _ q17 hq17 ?_
            show good 171 [.inr 0, .inr 1000, .inr 1000, .inl x3, .inl x4, .inl x5, .inl x6, .inl q17, .inr 1000] [] [.inl f0, .inl r11.1] [r10, g1, r11.2.1, g3, g4, g5, r11.2.2.1, r11.2.2.2, g8, g9]
            refine zv_ild hB zd317_171 rfl rfl ?_
            refine zv_zeq hB zd317_173 rfl (fun hc18 => ?_) (fun hc18 => ?_)
            · rw [if_pos hc18] at h
              refine zv_iincw hB zd317_180 rfl rfl ?_
              refine zv_goto hB zd317_183 rfl ?_
              refine zv_wk hB (L' := [.inr 0, .inr 1000, .inr 1000, .inl x3, .inl x4, .inl x5, .inl (zi_w (x6 + 1)), .inr 1000, .inr 1000]) (F' := [.inl f0, .inl r11.1]) ⟨fun _ => rfl, fun (h : zv_is (.inr 1000)) => (Nat.lt_irrefl 1000 h).elim, fun (h : zv_is (.inr 1000)) => (Nat.lt_irrefl 1000 h).elim, fun _ => rfl, fun _ => rfl, fun _ => rfl, fun _ => rfl, fun (h : zv_is (.inr 1000)) => (Nat.lt_irrefl 1000 h).elim, fun (h : zv_is (.inr 1000)) => (Nat.lt_irrefl 1000 h).elim, trivial⟩ ⟨fun _ => rfl, fun _ => rfl, trivial⟩ ?_
              exact ih _ _ _ _ _ _ _ _ _ _ _ q h hK
            · rw [if_neg hc18] at h
              refine zv_ild hB zd317_176 rfl rfl ?_
              refine zv_ist hB zd317_178 rfl rfl rfl ?_
              refine zv_iincw hB zd317_180 rfl rfl ?_
              refine zv_goto hB zd317_183 rfl ?_
              refine zv_wk hB (L' := [.inr 0, .inr 1000, .inr 1000, .inl x3, .inl x4, .inl x6, .inl (zi_w (x6 + 1)), .inr 1000, .inr 1000]) (F' := [.inl f0, .inl r11.1]) ⟨fun _ => rfl, fun (h : zv_is (.inr 1000)) => (Nat.lt_irrefl 1000 h).elim, fun (h : zv_is (.inr 1000)) => (Nat.lt_irrefl 1000 h).elim, fun _ => rfl, fun _ => rfl, fun _ => rfl, fun _ => rfl, fun (h : zv_is (.inr 1000)) => (Nat.lt_irrefl 1000 h).elim, fun (h : zv_is (.inr 1000)) => (Nat.lt_irrefl 1000 h).elim, trivial⟩ ⟨fun _ => rfl, fun _ => rfl, trivial⟩ ?_
              exact ih _ _ _ _ _ _ _ _ _ _ _ q h hK
          · rw [if_pos hc12] at h
            refine zv_con hB zd317_119 rfl ?_
            refine zv_goto hB zd317_120 rfl ?_
            refine zv_ist hB zd317_124 rfl rfl rfl ?_
            refine zv_con hB zd317_126 rfl ?_
            refine zv_ist hB zd317_127 rfl rfl rfl ?_
            obtain ⟨q19, hq19, h⟩ := zi_bind h
            refine l2 _ _ _ _ _ _ _ _ _ _ _ _ _ _ q19 hq19 ?_
            show good 171 [.inr 0, .inr 1000, .inr 1000, .inl x3, .inl x4, .inl x5, .inl x6, .inl q19, .inr 1000] [] [.inl f0, .inl r11.1] [r10, g1, r11.2.1, g3, g4, g5, r11.2.2.1, r11.2.2.2, g8, g9]
            refine zv_ild hB zd317_171 rfl rfl ?_
            refine zv_zeq hB zd317_173 rfl (fun hc20 => ?_) (fun hc20 => ?_)
            · rw [if_pos hc20] at h
              refine zv_iincw hB zd317_180 rfl rfl ?_
              refine zv_goto hB zd317_183 rfl ?_
              refine zv_wk hB (L' := [.inr 0, .inr 1000, .inr 1000, .inl x3, .inl x4, .inl x5, .inl (zi_w (x6 + 1)), .inr 1000, .inr 1000]) (F' := [.inl f0, .inl r11.1]) ⟨fun _ => rfl, fun (h : zv_is (.inr 1000)) => (Nat.lt_irrefl 1000 h).elim, fun (h : zv_is (.inr 1000)) => (Nat.lt_irrefl 1000 h).elim, fun _ => rfl, fun _ => rfl, fun _ => rfl, fun _ => rfl, fun (h : zv_is (.inr 1000)) => (Nat.lt_irrefl 1000 h).elim, fun (h : zv_is (.inr 1000)) => (Nat.lt_irrefl 1000 h).elim, trivial⟩ ⟨fun _ => rfl, fun _ => rfl, trivial⟩ ?_
              exact ih _ _ _ _ _ _ _ _ _ _ _ q h hK
            · rw [if_neg hc20] at h
              refine zv_ild hB zd317_176 rfl rfl ?_
              refine zv_ist hB zd317_178 rfl rfl rfl ?_
              refine zv_iincw hB zd317_180 rfl rfl ?_
              refine zv_goto hB zd317_183 rfl ?_
              refine zv_wk hB (L' := [.inr 0, .inr 1000, .inr 1000, .inl x3, .inl x4, .inl x6, .inl (zi_w (x6 + 1)), .inr 1000, .inr 1000]) (F' := [.inl f0, .inl r11.1]) ⟨fun _ => rfl, fun (h : zv_is (.inr 1000)) => (Nat.lt_irrefl 1000 h).elim, fun (h : zv_is (.inr 1000)) => (Nat.lt_irrefl 1000 h).elim, fun _ => rfl, fun _ => rfl, fun _ => rfl, fun _ => rfl, fun (h : zv_is (.inr 1000)) => (Nat.lt_irrefl 1000 h).elim, fun (h : zv_is (.inr 1000)) => (Nat.lt_irrefl 1000 h).elim, trivial⟩ ⟨fun _ => rfl, fun _ => rfl, trivial⟩ ?_
              exact ih _ _ _ _ _ _ _ _ _ _ _ q h hK
  unfold zf_M_home at h
  refine zv_ild hB zd317_0 rfl rfl ?_
  refine zv_ild hB zd317_1 rfl rfl ?_
  obtain ⟨r1, hr1, h⟩ := zi_bind h
  refine zv_cs hB (zv_emq (va2 := [.inl x1, .inl x2]) (F := [.inl f0, .inl f1]) (F' := [.inl f0, .inl f1]) (G := [g0, g1, g2, g3, g4, g5, g6, g7, g8, g9]) (G' := [g0, g1, g2, g3, g4, g5, g6, g7, g8, g9]) (ρ := []) (φ := []) (ψ := []) [none, none] [none, none, none, none, none, none, none, none, none, none] zyw_M_isPlace zyw_M_home zye_M_home (by decide +kernel) (zt_M_isPlace hr1) trivial trivial rfl rfl rfl rfl rfl rfl rfl) zd317_2 zxt201 rfl (by decide) (by decide) rfl ?_
  refine zv_zne hB zd317_5 rfl (fun hc2 => ?_) (fun hc2 => ?_)
  · rw [if_neg hc2] at h
    refine zv_con hB zd317_10 rfl ?_
    refine zv_ild hB zd317_12 rfl rfl ?_
    refine zv_mulw hB zd317_13 ?_
    refine zv_ild hB zd317_14 rfl rfl ?_
    refine zv_addw hB zd317_15 ?_
    refine zv_ist hB zd317_16 rfl rfl rfl ?_
    refine zv_ald hB zd317_17 rfl rfl rfl ?_
    refine zv_ild hB zd317_18 rfl rfl ?_
    obtain ⟨r3, hr3, h⟩ := zi_bind h
    refine zv_cv hB (zv_emq (va2 := [.inr 0, .inl (zi_w ((zi_w (24 * x2)) + x1))]) (F := [.inl f0, .inl f1]) (F' := [.inl f0, .inl r3.1]) (G := [g0, g1, g2, g3, g4, g5, g6, g7, g8, g9]) (G' := [g0, g1, r3.2.1, g3, g4, g5, r3.2.2.1, r3.2.2.2, g8, g9]) (ρ := [0, 1, 2, 3, 4, 5, 6, 7, 8]) (φ := [0, 1]) (ψ := [0, 1, 2, 3, 4, 5, 6, 7]) [some 0, some 1] [some 0, some 1, some 2, some 3, some 4, some 5, some 6, some 7, none, none] zyw_M_looks zyw_M_home zye_M_home (by decide +kernel) (zt_M_looks hr3) ⟨⟨_, rfl, fun _ => rfl⟩, ⟨_, rfl, fun _ => rfl⟩, trivial⟩ ⟨rfl, rfl, rfl, rfl, rfl, rfl, rfl, rfl, trivial⟩ rfl rfl rfl rfl rfl rfl rfl) zd317_19 zxt252 rfl (by decide) (by decide) rfl ?_
    refine zv_ald hB zd317_22 rfl rfl rfl ?_
    refine zv_getf hB zd317_23 rfl rfl (fun _ _ => ?_)
    refine zv_ist hB zd317_26 rfl rfl rfl ?_
    refine zv_con hB zd317_28 rfl ?_
    refine zv_ist hB zd317_29 rfl rfl rfl ?_
    obtain ⟨q6, hq6, h⟩ := zi_bind h
    refine zv_wk hB (L' := [.inr 0, .inr 1000, .inr 1000, .inl (zi_w ((zi_w (24 * x2)) + x1)), .inl r3.1, .inl 0, .inr 1000, .inr 1000, .inr 1000]) (F' := [.inl f0, .inl r3.1]) ⟨fun _ => rfl, fun (h : zv_is (.inr 1000)) => (Nat.lt_irrefl 1000 h).elim, fun (h : zv_is (.inr 1000)) => (Nat.lt_irrefl 1000 h).elim, fun _ => rfl, fun _ => rfl, fun _ => rfl, fun (h : zv_is (.inr 1000)) => (Nat.lt_irrefl 1000 h).elim, fun (h : zv_is (.inr 1000)) => (Nat.lt_irrefl 1000 h).elim, fun (h : zv_is (.inr 1000)) => (Nat.lt_irrefl 1000 h).elim, trivial⟩ ⟨fun _ => rfl, fun _ => rfl, trivial⟩ ?_
    refine l0 _ _ _ _ _ _ _ _ _ _ _ q6 hq6 ?_
    show good 58 [.inr 0, .inr 1000, .inr 1000, .inl (zi_w ((zi_w (24 * x2)) + x1)), .inl r3.1, .inr 1000, .inr 1000, .inr 1000, .inr 1000] [] [.inl f0, .inl r3.1] [g0, g1, r3.2.1, g3, g4, g5, r3.2.2.1, r3.2.2.2, q6, g9]
    refine zv_ald hB zd317_58 rfl rfl rfl ?_
    obtain ⟨r7, hr7, h⟩ := zi_bind h
    refine zv_cv hB (zv_emq (va2 := [.inr 0]) (F := [.inl f0, .inl r3.1]) (F' := [.inl f0, .inl r3.1]) (G := [g0, g1, r3.2.1, g3, g4, g5, r3.2.2.1, r3.2.2.2, q6, g9]) (G' := [g0, g1, r3.2.1, g3, g4, g5, r3.2.2.1, r3.2.2.2, q6, r7]) (ρ := [0, 1, 10]) (φ := []) (ψ := [0, 9]) [none, none] [some 0, none, none, none, none, none, none, none, none, some 1] zyw_M_begins zyw_M_home zye_M_home (by decide +kernel) (zt_M_begins hr7) trivial ⟨rfl, rfl, trivial⟩ rfl rfl rfl rfl rfl rfl rfl) zd317_59 zxt299 rfl (by decide) (by decide) rfl ?_
    refine zv_con hB zd317_62 rfl ?_
    refine zv_ist hB zd317_64 rfl rfl rfl ?_
    refine zv_con hB zd317_66 rfl ?_
    refine zv_ist hB zd317_67 rfl rfl rfl ?_
    obtain ⟨q21, hq21, h⟩ := zi_bind h
    refine l1 _ _ _ _ _ _ _ _ _ _ _ _ q21 hq21 ?_
    show good 186 [.inr 0, .inr 1000, .inr 1000, .inr 1000, .inr 1000, .inl q21.1, .inr 1000, .inr 1000, .inr 1000] [] [.inl f0, .inl q21.2.1] [q21.2.2.1, g1, q21.2.2.2.1, g3, g4, g5, q21.2.2.2.2.1, q21.2.2.2.2.2, q6, r7]
    refine zv_ald hB zd317_186 rfl rfl rfl ?_
    obtain ⟨r22, hr22, h⟩ := zi_bind h
    refine zv_cv hB (zv_emq (va2 := [.inr 0]) (F := [.inl f0, .inl q21.2.1]) (F' := [.inl f0, .inl q21.2.1]) (G := [q21.2.2.1, g1, q21.2.2.2.1, g3, g4, g5, q21.2.2.2.2.1, q21.2.2.2.2.2, q6, r7]) (G' := [r22, g1, q21.2.2.2.1, g3, g4, g5, q21.2.2.2.2.1, q21.2.2.2.2.2, q6, r7]) (ρ := [0, 10, 1]) (φ := []) (ψ := [9, 0]) [none, none] [some 1, none, none, none, none, none, none, none, none, some 0] zyw_M_again zyw_M_home zye_M_home (by decide +kernel) (zt_M_again hr22) trivial ⟨rfl, rfl, trivial⟩ rfl rfl rfl rfl rfl rfl rfl) zd317_187 zxt301 rfl (by decide) (by decide) rfl ?_
    refine zv_ild hB zd317_190 rfl rfl ?_
    have hw := Option.some.inj h
    subst hw
    exact hret _ _ _ _ _ zd317_192 (by trivial) ⟨rfl, rfl, rfl⟩
  · rw [if_pos hc2] at h
    refine zv_con hB zd317_8 rfl ?_
    have hw := Option.some.inj h
    subst hw
    exact hret _ _ _ _ _ zd317_9 (by trivial) ⟨rfl, rfl, rfl⟩
/-! M_seed (I)Z -/
-- names: 0 StarTalesModel('arg', 0), 1 (0, 422)(0, 12, 0)
-- fields: ; arrays: g0 = 1; out: [('ret', None), ('g', 0)]
abbrev zy_M_seed : zNL := (2, [(0, 12)], [], [(0, 12, 0, 1)], [(1, 0, 422, 0)])
theorem zyw_M_seed : zv_wf zy_M_seed = true := by decide +kernel
theorem zye_M_seed : zv_ek2 zy_M_seed = true := by decide +kernel
def zf_M_seed (x1 : Int) (g0 : (Int → Int)) : Option (Int × (Int → Int)) := (zf_M_in x1 0 65535).bind fun r1 => (if r1 = 0 then (some (0, g0)) else (some (1, (zv_up g0 133 x1))))
theorem zd318_0 : decode zxm318.2.1 0 = .ok (.iload_n 1, 1) := by decide +kernel
theorem zd318_1 : decode zxm318.2.1 1 = .ok (.iconst 0, 1) := by decide +kernel
theorem zd318_2 : decode zxm318.2.1 2 = .ok (.ldc_w 478, 3) := by decide +kernel
theorem zd318_5 : decode zxm318.2.1 5 = .ok (.invokestatic 150, 3) := by decide +kernel
theorem zd318_8 : decode zxm318.2.1 8 = .ok (.ifCond .ne 5, 3) := by decide +kernel
theorem zd318_11 : decode zxm318.2.1 11 = .ok (.iconst 0, 1) := by decide +kernel
theorem zd318_12 : decode zxm318.2.1 12 = .ok (.ireturn, 1) := by decide +kernel
theorem zd318_13 : decode zxm318.2.1 13 = .ok (.aload_n 0, 1) := by decide +kernel
theorem zd318_14 : decode zxm318.2.1 14 = .ok (.getfield 7, 3) := by decide +kernel
theorem zd318_17 : decode zxm318.2.1 17 = .ok (.sipush 133, 3) := by decide +kernel
theorem zd318_20 : decode zxm318.2.1 20 = .ok (.iload_n 1, 1) := by decide +kernel
theorem zd318_21 : decode zxm318.2.1 21 = .ok (.iastore, 1) := by decide +kernel
theorem zd318_22 : decode zxm318.2.1 22 = .ok (.iconst 1, 1) := by decide +kernel
theorem zd318_23 : decode zxm318.2.1 23 = .ok (.ireturn, 1) := by decide +kernel
theorem zt_M_seed {x1 : Int} {g0 : (Int → Int)} {o : Int × (Int → Int)} (h : zf_M_seed x1 g0 = some o) : zv_Fn z_TB z_cl z_KX zy_M_seed zxm318 (1, 60) [.inr 0, .inl x1] [] [g0] (some o.1) [] [o.2] := zv_meth (K := (z_KF13, z_KC13, z_KL13, z_KT13, [], [], [], none)) (FT := z_FT) (MT := z_MT) (n := 2) zxp318 (z_ks13 _ (fun _ h => List.mem_cons_of_mem _ h) _ _ _ _ (fun j r h _ => by cases h)) (fun _ _ => zs_KX_p) zyw_M_seed (fun va F G h => by obtain ⟨rfl, _⟩ := h; rfl) (fun va F G h => by obtain ⟨rfl, _⟩ := h; rfl) rfl fun good va F G hB hret hvret hP => by
  obtain ⟨rfl, rfl, rfl⟩ := hP
  unfold zf_M_seed at h
  refine zv_ild hB zd318_0 rfl rfl ?_
  refine zv_con hB zd318_1 rfl ?_
  refine zv_con (n := 65535) hB zd318_2 (by decide +kernel) ?_
  obtain ⟨r1, hr1, h⟩ := zi_bind h
  refine zv_cs hB (zv_emq (va2 := [.inl x1, .inl 0, .inl 65535]) (F := []) (F' := []) (G := [g0]) (G' := [g0]) (ρ := []) (φ := []) (ψ := []) [] [none] zyw_M_in zyw_M_seed zye_M_seed (by decide +kernel) (zt_M_in hr1) trivial trivial rfl rfl rfl rfl rfl rfl rfl) zd318_5 zxt200 rfl (by decide) (by decide) rfl ?_
  refine zv_zne hB zd318_8 rfl (fun hc2 => ?_) (fun hc2 => ?_)
  · rw [if_neg hc2] at h
    refine zv_ald hB zd318_13 rfl rfl rfl ?_
    refine zv_getr hB zd318_14 rfl ?_
    refine zv_con hB zd318_17 rfl ?_
    refine zv_ild hB zd318_20 rfl rfl ?_
    refine zv_iast hB zd318_21 rfl rfl (by decide) (by decide) ?_
    refine zv_con hB zd318_22 rfl ?_
    have hw := Option.some.inj h
    subst hw
    exact hret _ _ _ _ _ zd318_23 (by constructor <;> decide) ⟨rfl, rfl, rfl⟩
  · rw [if_pos hc2] at h
    refine zv_con hB zd318_11 rfl ?_
    have hw := Option.some.inj h
    subst hw
    exact hret _ _ _ _ _ zd318_12 (by constructor <;> decide) ⟨rfl, rfl, rfl⟩
/-! M_keep ()I -/
-- names: 0 StarTalesModel('arg', 0), 1 (0, 422)(0, 12, 0), 2 (0, 422)(0, 12, 2)
-- fields: f0 = 0.isKept_; arrays: g0 = 1, g1 = 2; out: [('ret', None), ('f', 0), ('g', 1)]
abbrev zy_M_keep : zNL := (3, [(0, 12)], [(0, 12, 63, 0)], [(0, 12, 0, 1), (0, 12, 2, 2)], [(1, 0, 422, 0), (2, 0, 422, 1)])
theorem zyw_M_keep : zv_wf zy_M_keep = true := by decide +kernel
theorem zye_M_keep : zv_ek2 zy_M_keep = true := by decide +kernel
def zf_M_keep (f0 : Int) (g0 : (Int → Int)) (g1 : (Int → Int)) : Option (Int × Int × (Int → Int)) := (zf_M_copies_422_422 g0 g1).bind fun r1 => ((zf_M_bits (g0 126)).bind fun r2 => (some (r2, 1, r1)))
theorem zd319_0 : decode zxm319.2.1 0 = .ok (.aload_n 0, 1) := by decide +kernel
theorem zd319_1 : decode zxm319.2.1 1 = .ok (.iconst 1, 1) := by decide +kernel
theorem zd319_2 : decode zxm319.2.1 2 = .ok (.putfield 479, 3) := by decide +kernel
theorem zd319_5 : decode zxm319.2.1 5 = .ok (.aload_n 0, 1) := by decide +kernel
theorem zd319_6 : decode zxm319.2.1 6 = .ok (.getfield 7, 3) := by decide +kernel
theorem zd319_9 : decode zxm319.2.1 9 = .ok (.aload_n 0, 1) := by decide +kernel
theorem zd319_10 : decode zxm319.2.1 10 = .ok (.getfield 16, 3) := by decide +kernel
theorem zd319_13 : decode zxm319.2.1 13 = .ok (.invokestatic 134, 3) := by decide +kernel
theorem zd319_16 : decode zxm319.2.1 16 = .ok (.aload_n 0, 1) := by decide +kernel
theorem zd319_17 : decode zxm319.2.1 17 = .ok (.getfield 7, 3) := by decide +kernel
theorem zd319_20 : decode zxm319.2.1 20 = .ok (.bipush 126, 2) := by decide +kernel
theorem zd319_22 : decode zxm319.2.1 22 = .ok (.iaload, 1) := by decide +kernel
theorem zd319_23 : decode zxm319.2.1 23 = .ok (.invokestatic 321, 3) := by decide +kernel
theorem zd319_26 : decode zxm319.2.1 26 = .ok (.ireturn, 1) := by decide +kernel
theorem zt_M_keep {f0 : Int} {g0 : (Int → Int)} {g1 : (Int → Int)} {o : Int × Int × (Int → Int)} (h : zf_M_keep f0 g0 g1 = some o) : zv_Fn z_TB z_cl z_KX zy_M_keep zxm319 (1, 60) [.inr 0] [.inl f0] [g0, g1] (some o.1) [.inl o.2.1] [g0, o.2.2] := zv_meth (K := (z_KF13, z_KC13, z_KL13, z_KT13, [], [], [], none)) (FT := z_FT) (MT := z_MT) (n := 1) zxp319 (z_ks13 _ (fun _ h => List.mem_cons_of_mem _ h) _ _ _ _ (fun j r h _ => by cases h)) (fun _ _ => zs_KX_p) zyw_M_keep (fun va F G h => by obtain ⟨rfl, _⟩ := h; rfl) (fun va F G h => by obtain ⟨rfl, _⟩ := h; rfl) rfl fun good va F G hB hret hvret hP => by
  obtain ⟨rfl, rfl, rfl⟩ := hP
  unfold zf_M_keep at h
  refine zv_ald hB zd319_0 rfl rfl rfl ?_
  refine zv_con hB zd319_1 rfl ?_
  refine zv_putf hB zd319_2 rfl rfl (fun _ => by decide) rfl ?_
  refine zv_ald hB zd319_5 rfl rfl rfl ?_
  refine zv_getr hB zd319_6 rfl ?_
  refine zv_ald hB zd319_9 rfl rfl rfl ?_
  refine zv_getr hB zd319_10 rfl ?_
  obtain ⟨r1, hr1, h⟩ := zi_bind h
  refine zv_cs hB (zv_emq (va2 := [.inr 1, .inr 2]) (F := [.inl 1]) (F' := [.inl 1]) (G := [g0, g1]) (G' := [g0, r1]) (ρ := [1, 2]) (φ := []) (ψ := [0, 1]) [none] [some 0, some 1] zyw_M_copies_422_422 zyw_M_keep zye_M_keep (by decide +kernel) (zt_M_copies_422_422 hr1) trivial ⟨rfl, rfl, trivial⟩ rfl rfl rfl rfl rfl rfl rfl) zd319_13 zxt300 rfl (by decide) (by decide) rfl ?_
  refine zv_ald hB zd319_16 rfl rfl rfl ?_
  refine zv_getr hB zd319_17 rfl ?_
  refine zv_con hB zd319_20 rfl ?_
  refine zv_iald hB zd319_22 rfl rfl (by decide) (by decide) (fun _ _ => ?_)
  obtain ⟨r2, hr2, h⟩ := zi_bind h
  refine zv_cs hB (zv_emq (va2 := [.inl (g0 126)]) (F := [.inl 1]) (F' := [.inl 1]) (G := [g0, r1]) (G' := [g0, r1]) (ρ := []) (φ := []) (ψ := []) [none] [none, none] zyw_M_bits zyw_M_keep zye_M_keep (by decide +kernel) (zt_M_bits hr2) trivial trivial rfl rfl rfl rfl rfl rfl rfl) zd319_23 zxt257 rfl (by decide) (by decide) rfl ?_
  have hw := Option.some.inj h
  subst hw
  exact hret _ _ _ _ _ zd319_26 (by trivial) ⟨rfl, rfl, rfl⟩
/-! M_undo ()Z -/
-- names: 0 StarTalesModel('arg', 0), 1 (0, 422)(0, 12, 2), 2 (0, 422)(0, 12, 0)
-- fields: f0 = 0.isKept_; arrays: g0 = 1, g1 = 2; out: [('ret', None), ('g', 1)]
abbrev zy_M_undo : zNL := (3, [(0, 12)], [(0, 12, 63, 0)], [(0, 12, 2, 1), (0, 12, 0, 2)], [(1, 0, 422, 0), (2, 0, 422, 1)])
theorem zyw_M_undo : zv_wf zy_M_undo = true := by decide +kernel
theorem zye_M_undo : zv_ek2 zy_M_undo = true := by decide +kernel
def zf_M_undo (f0 : Int) (g0 : (Int → Int)) (g1 : (Int → Int)) : Option (Int × (Int → Int)) := if f0 = 0 then (some (0, g1)) else ((zf_M_copies_422_422 g0 g1).bind fun r2 => (some (1, r2)))
theorem zd320_0 : decode zxm320.2.1 0 = .ok (.aload_n 0, 1) := by decide +kernel
theorem zd320_1 : decode zxm320.2.1 1 = .ok (.getfield 479, 3) := by decide +kernel
theorem zd320_4 : decode zxm320.2.1 4 = .ok (.ifCond .ne 5, 3) := by decide +kernel
theorem zd320_7 : decode zxm320.2.1 7 = .ok (.iconst 0, 1) := by decide +kernel
theorem zd320_8 : decode zxm320.2.1 8 = .ok (.ireturn, 1) := by decide +kernel
theorem zd320_9 : decode zxm320.2.1 9 = .ok (.aload_n 0, 1) := by decide +kernel
theorem zd320_10 : decode zxm320.2.1 10 = .ok (.getfield 16, 3) := by decide +kernel
theorem zd320_13 : decode zxm320.2.1 13 = .ok (.aload_n 0, 1) := by decide +kernel
theorem zd320_14 : decode zxm320.2.1 14 = .ok (.getfield 7, 3) := by decide +kernel
theorem zd320_17 : decode zxm320.2.1 17 = .ok (.invokestatic 134, 3) := by decide +kernel
theorem zd320_20 : decode zxm320.2.1 20 = .ok (.iconst 1, 1) := by decide +kernel
theorem zd320_21 : decode zxm320.2.1 21 = .ok (.ireturn, 1) := by decide +kernel
theorem zt_M_undo {f0 : Int} {g0 : (Int → Int)} {g1 : (Int → Int)} {o : Int × (Int → Int)} (h : zf_M_undo f0 g0 g1 = some o) : zv_Fn z_TB z_cl z_KX zy_M_undo zxm320 (1, 60) [.inr 0] [.inl f0] [g0, g1] (some o.1) [.inl f0] [g0, o.2] := zv_meth (K := (z_KF13, z_KC13, z_KL13, z_KT13, [], [], [], none)) (FT := z_FT) (MT := z_MT) (n := 1) zxp320 (z_ks13 _ (fun _ h => List.mem_cons_of_mem _ h) _ _ _ _ (fun j r h _ => by cases h)) (fun _ _ => zs_KX_p) zyw_M_undo (fun va F G h => by obtain ⟨rfl, _⟩ := h; rfl) (fun va F G h => by obtain ⟨rfl, _⟩ := h; rfl) rfl fun good va F G hB hret hvret hP => by
  obtain ⟨rfl, rfl, rfl⟩ := hP
  unfold zf_M_undo at h
  refine zv_ald hB zd320_0 rfl rfl rfl ?_
  refine zv_getf hB zd320_1 rfl rfl (fun _ _ => ?_)
  refine zv_zne hB zd320_4 rfl (fun hc1 => ?_) (fun hc1 => ?_)
  · rw [if_neg hc1] at h
    refine zv_ald hB zd320_9 rfl rfl rfl ?_
    refine zv_getr hB zd320_10 rfl ?_
    refine zv_ald hB zd320_13 rfl rfl rfl ?_
    refine zv_getr hB zd320_14 rfl ?_
    obtain ⟨r2, hr2, h⟩ := zi_bind h
    refine zv_cs hB (zv_emq (va2 := [.inr 1, .inr 2]) (F := [.inl f0]) (F' := [.inl f0]) (G := [g0, g1]) (G' := [g0, r2]) (ρ := [1, 2]) (φ := []) (ψ := [0, 1]) [none] [some 0, some 1] zyw_M_copies_422_422 zyw_M_undo zye_M_undo (by decide +kernel) (zt_M_copies_422_422 hr2) trivial ⟨rfl, rfl, trivial⟩ rfl rfl rfl rfl rfl rfl rfl) zd320_17 zxt300 rfl (by decide) (by decide) rfl ?_
    refine zv_con hB zd320_20 rfl ?_
    have hw := Option.some.inj h
    subst hw
    exact hret _ _ _ _ _ zd320_21 (by constructor <;> decide) ⟨rfl, rfl, rfl⟩
  · rw [if_pos hc1] at h
    refine zv_con hB zd320_7 rfl ?_
    have hw := Option.some.inj h
    subst hw
    exact hret _ _ _ _ _ zd320_8 (by constructor <;> decide) ⟨rfl, rfl, rfl⟩
/-! M_tapeNumber (I)I -/
-- names: 0 StarTalesModel('arg', 0), 1 (1, 220)(0, 12, 3)
-- fields: ; arrays: g0 = 1; out: [('ret', None)]
abbrev zy_M_tapeNumber : zNL := (2, [(0, 12)], [], [(0, 12, 3, 1)], [(1, 1, 220, 0)])
theorem zyw_M_tapeNumber : zv_wf zy_M_tapeNumber = true := by decide +kernel
theorem zye_M_tapeNumber : zv_ek2 zy_M_tapeNumber = true := by decide +kernel
def zf_M_tapeNumber_l0_b (x1 : Int) (g0 : (Int → Int)) (rec : Int → Int → Option (Int)) (x2 : Int) (x3 : Int) : Option (Int) := if x3 < (zi_w ((zi_w (4 * x1)) + 4)) then (cond (zi_ix x3 220) (rec (zi_or (zi_shl x2 8) (zi_and (g0 x3) 255)) (zi_w (x3 + 1))) none) else (some x2)
def zf_M_tapeNumber_l0 (x1 : Int) (g0 : (Int → Int)) : Nat → Int → Int → Option (Int)
  | 0, _, _ => none
  | n + 1, x2, x3 => zf_M_tapeNumber_l0_b x1 g0 (zf_M_tapeNumber_l0 x1 g0 n) x2 x3
def zf_M_tapeNumber (x1 : Int) (g0 : (Int → Int)) : Option (Int) := (zf_M_tapeNumber_l0 x1 g0 zi_fu 0 (zi_w (4 * x1))).bind fun q3 => (some q3)
theorem zd322_0 : decode zxm322.2.1 0 = .ok (.iconst 0, 1) := by decide +kernel
theorem zd322_1 : decode zxm322.2.1 1 = .ok (.istore_n 2, 1) := by decide +kernel
theorem zd322_2 : decode zxm322.2.1 2 = .ok (.iconst 4, 1) := by decide +kernel
theorem zd322_3 : decode zxm322.2.1 3 = .ok (.iload_n 1, 1) := by decide +kernel
theorem zd322_4 : decode zxm322.2.1 4 = .ok (.imul, 1) := by decide +kernel
theorem zd322_5 : decode zxm322.2.1 5 = .ok (.istore_n 3, 1) := by decide +kernel
theorem zd322_6 : decode zxm322.2.1 6 = .ok (.iload_n 3, 1) := by decide +kernel
theorem zd322_7 : decode zxm322.2.1 7 = .ok (.iconst 4, 1) := by decide +kernel
theorem zd322_8 : decode zxm322.2.1 8 = .ok (.iload_n 1, 1) := by decide +kernel
theorem zd322_9 : decode zxm322.2.1 9 = .ok (.imul, 1) := by decide +kernel
theorem zd322_10 : decode zxm322.2.1 10 = .ok (.iconst 4, 1) := by decide +kernel
theorem zd322_11 : decode zxm322.2.1 11 = .ok (.iadd, 1) := by decide +kernel
theorem zd322_12 : decode zxm322.2.1 12 = .ok (.if_icmp .ge 25, 3) := by decide +kernel
theorem zd322_15 : decode zxm322.2.1 15 = .ok (.iload_n 2, 1) := by decide +kernel
theorem zd322_16 : decode zxm322.2.1 16 = .ok (.bipush 8, 2) := by decide +kernel
theorem zd322_18 : decode zxm322.2.1 18 = .ok (.ishl, 1) := by decide +kernel
theorem zd322_19 : decode zxm322.2.1 19 = .ok (.aload_n 0, 1) := by decide +kernel
theorem zd322_20 : decode zxm322.2.1 20 = .ok (.getfield 19, 3) := by decide +kernel
theorem zd322_23 : decode zxm322.2.1 23 = .ok (.iload_n 3, 1) := by decide +kernel
theorem zd322_24 : decode zxm322.2.1 24 = .ok (.baload, 1) := by decide +kernel
theorem zd322_25 : decode zxm322.2.1 25 = .ok (.sipush 255, 3) := by decide +kernel
theorem zd322_28 : decode zxm322.2.1 28 = .ok (.iand, 1) := by decide +kernel
theorem zd322_29 : decode zxm322.2.1 29 = .ok (.ior, 1) := by decide +kernel
theorem zd322_30 : decode zxm322.2.1 30 = .ok (.istore_n 2, 1) := by decide +kernel
theorem zd322_31 : decode zxm322.2.1 31 = .ok (.iinc 3 1, 3) := by decide +kernel
theorem zd322_34 : decode zxm322.2.1 34 = .ok (.goto (-28), 3) := by decide +kernel
theorem zd322_37 : decode zxm322.2.1 37 = .ok (.iload_n 2, 1) := by decide +kernel
theorem zd322_38 : decode zxm322.2.1 38 = .ok (.ireturn, 1) := by decide +kernel
theorem zt_M_tapeNumber {x1 : Int} {g0 : (Int → Int)} {o : Int} (h : zf_M_tapeNumber x1 g0 = some o) : zv_Fn z_TB z_cl z_KX zy_M_tapeNumber zxm322 (0, 0) [.inr 0, .inl x1] [] [g0] (some o) [] [g0] := zv_meth (K := (z_KF13, z_KC13, z_KL13, z_KT13, [], [], [], none)) (FT := z_FT) (MT := z_MT) (n := 2) zxp322 (z_ks13 _ (fun _ h => List.mem_cons_of_mem _ h) _ _ _ _ (fun j r h _ => by cases h)) (fun _ _ => zs_KX_p) zyw_M_tapeNumber (fun va F G h => by obtain ⟨rfl, _⟩ := h; rfl) (fun va F G h => by obtain ⟨rfl, _⟩ := h; rfl) rfl fun good va F G hB hret hvret hP => by
  obtain ⟨rfl, rfl, rfl⟩ := hP
  have l0 : ∀ (n : Nat) (x1 : Int) (x2 : Int) (x3 : Int) (q : Int), zf_M_tapeNumber_l0 x1 g0 n x2 x3 = some q → (good 37 [.inr 1000, .inr 1000, .inl q, .inr 1000] [] [] [g0]) → good 6 [.inr 0, .inl x1, .inl x2, .inl x3] [] [] [g0] := by
    intro n
    induction n with
    | zero => intro x1 x2 x3 q h; exact absurd (show none = some q from h) (fun h => by cases h)
    | succ n ih =>
      intro x1 x2 x3 q h hK
      replace h : zf_M_tapeNumber_l0_b x1 g0 (zf_M_tapeNumber_l0 x1 g0 n) x2 x3 = some q := h
      unfold zf_M_tapeNumber_l0_b at h
      refine zv_ild hB zd322_6 rfl rfl ?_
      refine zv_con hB zd322_7 rfl ?_
      refine zv_ild hB zd322_8 rfl rfl ?_
      refine zv_mulw hB zd322_9 ?_
      refine zv_con hB zd322_10 rfl ?_
      refine zv_addw hB zd322_11 ?_
      refine zv_cge hB zd322_12 rfl (fun hc1 => ?_) (fun hc1 => ?_)
      · rw [if_neg (Int.not_lt.mpr hc1)] at h
        have hq := Option.some.inj h
        subst hq
        refine zv_wk hB (L' := [.inr 1000, .inr 1000, .inl x2, .inr 1000]) (F' := []) ⟨fun (h : zv_is (.inr 1000)) => (Nat.lt_irrefl 1000 h).elim, fun (h : zv_is (.inr 1000)) => (Nat.lt_irrefl 1000 h).elim, fun _ => rfl, fun (h : zv_is (.inr 1000)) => (Nat.lt_irrefl 1000 h).elim, trivial⟩ trivial ?_
        exact hK
      · rw [if_pos hc1] at h
        refine zv_ild hB zd322_15 rfl rfl ?_
        refine zv_con hB zd322_16 rfl ?_
        refine zv_shlw hB zd322_18 ?_
        refine zv_ald hB zd322_19 rfl rfl rfl ?_
        refine zv_getr hB zd322_20 rfl ?_
        refine zv_ild hB zd322_23 rfl rfl ?_
        obtain ⟨c2, h⟩ := zi_if h
        refine zv_bald hB zd322_24 rfl rfl (zi_ix_ok c2).1 (zi_ix_ok c2).2 (fun _ _ => ?_)
        refine zv_con hB zd322_25 rfl ?_
        refine zv_andw hB zd322_28 ?_
        refine zv_orw hB zd322_29 ?_
        refine zv_ist hB zd322_30 rfl rfl rfl ?_
        refine zv_iincw hB zd322_31 rfl rfl ?_
        refine zv_goto hB zd322_34 rfl ?_
        exact ih _ _ _ q h hK
  unfold zf_M_tapeNumber at h
  refine zv_con hB zd322_0 rfl ?_
  refine zv_ist hB zd322_1 rfl rfl rfl ?_
  refine zv_con hB zd322_2 rfl ?_
  refine zv_ild hB zd322_3 rfl rfl ?_
  refine zv_mulw hB zd322_4 ?_
  refine zv_ist hB zd322_5 rfl rfl rfl ?_
  obtain ⟨q3, hq3, h⟩ := zi_bind h
  refine l0 _ _ _ _ q3 hq3 ?_
  show good 37 [.inr 1000, .inr 1000, .inl q3, .inr 1000] [] [] [g0]
  refine zv_ild hB zd322_37 rfl rfl ?_
  have hw := Option.some.inj h
  subst hw
  exact hret _ _ _ _ _ zd322_38 (by trivial) ⟨rfl, rfl, rfl⟩
end
