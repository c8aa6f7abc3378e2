/-! 61p.dec, 61q.dec, 61r.dec, 61s.dec -/
section
/-! Methods as functions, and that they do what these do. -/
/-! X_log (II)I -/
-- names: 0 StarTales('arg', 0), 1 Tale(0, 0, 10), 2 Tape(0, 0, 6), 3 (0, 220)(2, 3, 0), 4 (0, 288)(0, 0, 18), 5 Sea(0, 0, 3), 6 (0, 12)(5, 2, 0), 7 Sky(0, 0, 2), 8 Sky(0, 0, 0), 9 (0, 24)(8, 1, 1), 10 (0, 24)(7, 1, 1), 11 (0, 24)(8, 1, 2), 12 (0, 24)(7, 1, 2), 13 (0, 24)(8, 1, 3), 14 (0, 24)(7, 1, 3), 15 (0, 24)(8, 1, 4), 16 (0, 24)(7, 1, 4), 17 (0, 24)(8, 1, 5), 18 (0, 24)(7, 1, 5), 19 View(0, 0, 12), 20 Law(0, 0, 7), 21 (0, 24)(19, 7, 8), 22 (0, 13)(20, 4, 12), 23 (0, 14)(20, 4, 3), 24 (0, 14)(20, 4, 5), 25 (0, 14)(20, 4, 6), 26 (0, 200)(20, 4, 0), 27 (0, 40)(20, 4, 13), 28 (0, 200)(20, 4, 1), 29 (0, 24)(19, 7, 5), 30 (0, 24)(19, 7, 9), 31 Matcher(0, 0, 14), 32 (0, 72)(31, 8, 0), 33 (0, 8)(1, 6, 2), 34 (0, 24)(31, 8, 1), 35 (0, 8)(31, 8, 2)
-- fields: f0 = 0.telling_, f1 = 1.lines_, f2 = 2.size_, f3 = 8.told_, f4 = 7.told_, f5 = 8.hour_, f6 = 7.hour_, f7 = 8.night_, f8 = 7.night_, f9 = 8.clouds_, f10 = 7.clouds_, f11 = 8.sightColumns_, f12 = 7.sightColumns_, f13 = 8.sightRows_, f14 = 7.sightRows_, f15 = 8.chance_, f16 = 7.chance_, f17 = 0.ruling_, f18 = 19.sky_, f19 = 19.law_, f20 = 19.starsAsked_, f21 = 19.x_, f22 = 19.y_, f23 = 19.shown_, f24 = 20.tellsSeen_, f25 = 19.starsHold_, f26 = 20.clauses_, f27 = 20.answer_, f28 = 20.seenByPlace_, f29 = 1.names_, f30 = 20.tellsLines_, f31 = 20.linesByPlace_, f32 = 31.tale_, f33 = 31.joined_, f34 = 31.deadEnds_; arrays: g0 = 3, g1 = 4, g2 = 6, g3 = 9, g4 = 10, g5 = 11, g6 = 12, g7 = 13, g8 = 14, g9 = 15, g10 = 16, g11 = 17, g12 = 18, g13 = 21, g14 = 22, g15 = 23, g16 = 24, g17 = 25, g18 = 26, g19 = 27, g20 = 28, g21 = 29, g22 = 30, g23 = 32, g24 = 33, g25 = 34, g26 = 35; out: [('ret', None), ('f', 2), ('f', 4), ('f', 6), ('f', 8), ('f', 10), ('f', 12), ('f', 14), ('f', 16), ('f', 20), ('f', 21), ('f', 22), ('f', 23), ('f', 25), ('f', 27), ('f', 34), ('g', 1), ('g', 4), ('g', 6), ('g', 8), ('g', 10), ('g', 12), ('g', 13), ('g', 14), ('g', 19), ('g', 21), ('g', 22), ('g', 23), ('g', 25), ('g', 26)]
abbrev zy_X_log : zNL := (36, [(0, 0), (1, 6), (2, 3), (5, 2), (7, 1), (8, 1), (19, 7), (20, 4), (31, 8)], [(0, 0, 10, 0), (1, 6, 0, 1), (2, 3, 1, 2), (8, 1, 0, 3), (7, 1, 0, 4), (8, 1, 6, 5), (7, 1, 6, 6), (8, 1, 7, 7), (7, 1, 7, 8), (8, 1, 8, 9), (7, 1, 8, 10), (8, 1, 9, 11), (7, 1, 9, 12), (8, 1, 10, 13), (7, 1, 10, 14), (8, 1, 11, 15), (7, 1, 11, 16), (0, 0, 7, 17), (19, 7, 0, 18), (19, 7, 1, 19), (19, 7, 6, 20), (19, 7, 2, 21), (19, 7, 3, 22), (19, 7, 4, 23), (20, 4, 8, 24), (19, 7, 7, 25), (20, 4, 7, 26), (20, 4, 14, 27), (20, 4, 10, 28), (1, 6, 1, 29), (20, 4, 9, 30), (20, 4, 11, 31), (31, 8, 3, 32), (31, 8, 4, 33), (31, 8, 6, 34)], [(0, 0, 6, 2), (2, 3, 0, 3), (0, 0, 18, 4), (0, 0, 3, 5), (5, 2, 0, 6), (0, 0, 2, 7), (0, 0, 0, 8), (8, 1, 1, 9), (7, 1, 1, 10), (8, 1, 2, 11), (7, 1, 2, 12), (8, 1, 3, 13), (7, 1, 3, 14), (8, 1, 4, 15), (7, 1, 4, 16), (8, 1, 5, 17), (7, 1, 5, 18), (0, 0, 12, 19), (19, 7, 8, 21), (20, 4, 12, 22), (20, 4, 3, 23), (20, 4, 5, 24), (20, 4, 6, 25), (20, 4, 0, 26), (20, 4, 13, 27), (20, 4, 1, 28), (19, 7, 5, 29), (19, 7, 9, 30), (0, 0, 14, 31), (31, 8, 0, 32), (1, 6, 2, 33), (31, 8, 1, 34), (31, 8, 2, 35)], [(3, 0, 220, 0), (4, 0, 288, 1), (6, 0, 12, 2), (9, 0, 24, 3), (10, 0, 24, 4), (11, 0, 24, 5), (12, 0, 24, 6), (13, 0, 24, 7), (14, 0, 24, 8), (15, 0, 24, 9), (16, 0, 24, 10), (17, 0, 24, 11), (18, 0, 24, 12), (21, 0, 24, 13), (22, 0, 13, 14), (23, 0, 14, 15), (24, 0, 14, 16), (25, 0, 14, 17), (26, 0, 200, 18), (27, 0, 40, 19), (28, 0, 200, 20), (29, 0, 24, 21), (30, 0, 24, 22), (32, 0, 72, 23), (33, 0, 8, 24), (34, 0, 24, 25), (35, 0, 8, 26)])
theorem zyw_X_log : zv_wf zy_X_log = true := by decide +kernel
theorem zye_X_log : zv_ek2 zy_X_log = true := by decide +kernel
def zf_X_log_l0_b (g2 : (Int → Int)) (rec : Int → (Int → Int) → Option ((Int → Int))) (x4 : Int) (g1 : (Int → Int)) : Option ((Int → Int)) := if x4 < 288 then ((zf_Sea_isLand x4 g2).bind fun r15 => (if r15 = 0 then (cond (zi_ix x4 288) (rec (zi_w (x4 + 1)) (zv_up g1 x4 x4)) none) else (cond (zi_ix x4 288) (rec (zi_w (x4 + 1)) (zv_up g1 x4 (-1))) none))) else (some g1)
def zf_X_log_l0 (g2 : (Int → Int)) : Nat → Int → (Int → Int) → Option ((Int → Int))
  | 0, _, _ => none
  | n + 1, x4, g1 => zf_X_log_l0_b g2 (zf_X_log_l0 g2 n) x4 g1
def zf_X_log_l2_b (x5 : Int) (f4 : Int) (f6 : Int) (f8 : Int) (f10 : Int) (f12 : Int) (f14 : Int) (f24 : Int) (f26 : Int) (f28 : Int) (f29 : Int) (f30 : Int) (f31 : Int) (g4 : (Int → Int)) (g6 : (Int → Int)) (g8 : (Int → Int)) (g15 : (Int → Int)) (g16 : (Int → Int)) (g17 : (Int → Int)) (g18 : (Int → Int)) (g20 : (Int → Int)) (g24 : (Int → Int)) (rec : Int → Int → Int → Int → Int → Int → Int → Int → (Int → Int) → (Int → Int) → (Int → Int) → (Int → Int) → (Int → Int) → (Int → Int) → (Int → Int) → (Int → Int) → (Int → Int) → Option (Int × Int × Int × Int × Int × Int × Int × (Int → Int) × (Int → Int) × (Int → Int) × (Int → Int) × (Int → Int) × (Int → Int) × (Int → Int) × (Int → Int) × (Int → Int))) (x6 : Int) (f20 : Int) (f21 : Int) (f22 : Int) (f23 : Int) (f25 : Int) (f27 : Int) (f34 : Int) (g1 : (Int → Int)) (g13 : (Int → Int)) (g14 : (Int → Int)) (g19 : (Int → Int)) (g21 : (Int → Int)) (g22 : (Int → Int)) (g23 : (Int → Int)) (g25 : (Int → Int)) (g26 : (Int → Int)) : Option (Int × Int × Int × Int × Int × Int × Int × (Int → Int) × (Int → Int) × (Int → Int) × (Int → Int) × (Int → Int) × (Int → Int) × (Int → Int) × (Int → Int) × (Int → Int)) := if x6 < 288 then (cond (zi_ix x6 288) (if (g1 x6) = (-1) then (rec (zi_w (x6 + 1)) f20 f21 f22 f23 f25 f27 f34 g1 g13 g14 g19 g21 g22 g23 g25 g26) else ((zf_X_canBeTold (g1 x6) f21 f22 f6 f8 f23 f4 f12 f14 f10 f24 f20 f25 f26 f27 f28 f29 f30 f31 f34 g14 g4 g6 g8 g15 g16 g17 g18 g19 g20 g21 g13 g22 g23 g24 g25 g26).bind fun r28 => (if r28.1 = x5 then (rec (zi_w (x6 + 1)) r28.2.2.2.2.1 r28.2.1 r28.2.2.1 r28.2.2.2.1 r28.2.2.2.2.2.1 r28.2.2.2.2.2.2.1 r28.2.2.2.2.2.2.2.1 g1 r28.2.2.2.2.2.2.2.2.2.2.2.1 r28.2.2.2.2.2.2.2.2.1 r28.2.2.2.2.2.2.2.2.2.1 r28.2.2.2.2.2.2.2.2.2.2.1 r28.2.2.2.2.2.2.2.2.2.2.2.2.1 r28.2.2.2.2.2.2.2.2.2.2.2.2.2.1 r28.2.2.2.2.2.2.2.2.2.2.2.2.2.2.1 r28.2.2.2.2.2.2.2.2.2.2.2.2.2.2.2) else (rec (zi_w (x6 + 1)) r28.2.2.2.2.1 r28.2.1 r28.2.2.1 r28.2.2.2.1 r28.2.2.2.2.2.1 r28.2.2.2.2.2.2.1 r28.2.2.2.2.2.2.2.1 (zv_up g1 x6 (-1)) r28.2.2.2.2.2.2.2.2.2.2.2.1 r28.2.2.2.2.2.2.2.2.1 r28.2.2.2.2.2.2.2.2.2.1 r28.2.2.2.2.2.2.2.2.2.2.1 r28.2.2.2.2.2.2.2.2.2.2.2.2.1 r28.2.2.2.2.2.2.2.2.2.2.2.2.2.1 r28.2.2.2.2.2.2.2.2.2.2.2.2.2.2.1 r28.2.2.2.2.2.2.2.2.2.2.2.2.2.2.2)))) none) else (some (f20, f21, f22, f23, f25, f27, f34, g1, g13, g14, g19, g21, g22, g23, g25, g26))
def zf_X_log_l2 (x5 : Int) (f4 : Int) (f6 : Int) (f8 : Int) (f10 : Int) (f12 : Int) (f14 : Int) (f24 : Int) (f26 : Int) (f28 : Int) (f29 : Int) (f30 : Int) (f31 : Int) (g4 : (Int → Int)) (g6 : (Int → Int)) (g8 : (Int → Int)) (g15 : (Int → Int)) (g16 : (Int → Int)) (g17 : (Int → Int)) (g18 : (Int → Int)) (g20 : (Int → Int)) (g24 : (Int → Int)) : Nat → Int → Int → Int → Int → Int → Int → Int → Int → (Int → Int) → (Int → Int) → (Int → Int) → (Int → Int) → (Int → Int) → (Int → Int) → (Int → Int) → (Int → Int) → (Int → Int) → Option (Int × Int × Int × Int × Int × Int × Int × (Int → Int) × (Int → Int) × (Int → Int) × (Int → Int) × (Int → Int) × (Int → Int) × (Int → Int) × (Int → Int) × (Int → Int))
  | 0, _, _, _, _, _, _, _, _, _, _, _, _, _, _, _, _, _ => none
  | n + 1, x6, f20, f21, f22, f23, f25, f27, f34, g1, g13, g14, g19, g21, g22, g23, g25, g26 => zf_X_log_l2_b x5 f4 f6 f8 f10 f12 f14 f24 f26 f28 f29 f30 f31 g4 g6 g8 g15 g16 g17 g18 g20 g24 (zf_X_log_l2 x5 f4 f6 f8 f10 f12 f14 f24 f26 f28 f29 f30 f31 g4 g6 g8 g15 g16 g17 g18 g20 g24 n) x6 f20 f21 f22 f23 f25 f27 f34 g1 g13 g14 g19 g21 g22 g23 g25 g26
def zf_X_log_l1_b (x1 : Int) (f4 : Int) (f10 : Int) (f12 : Int) (f14 : Int) (f24 : Int) (f26 : Int) (f28 : Int) (f29 : Int) (f30 : Int) (f31 : Int) (g0 : (Int → Int)) (g2 : (Int → Int)) (g8 : (Int → Int)) (g10 : (Int → Int)) (g12 : (Int → Int)) (g15 : (Int → Int)) (g16 : (Int → Int)) (g17 : (Int → Int)) (g18 : (Int → Int)) (g20 : (Int → Int)) (g24 : (Int → Int)) (rec : Int → Int → Int → Int → Int → Int → Int → Int → Int → Int → (Int → Int) → (Int → Int) → (Int → Int) → (Int → Int) → (Int → Int) → (Int → Int) → (Int → Int) → (Int → Int) → (Int → Int) → (Int → Int) → (Int → Int) → Option (Int × Int × Int × Int × Int × Int × Int × Int × Int × (Int → Int) × (Int → Int) × (Int → Int) × (Int → Int) × (Int → Int) × (Int → Int) × (Int → Int) × (Int → Int) × (Int → Int) × (Int → Int) × (Int → Int))) (x4 : Int) (f6 : Int) (f8 : Int) (f20 : Int) (f21 : Int) (f22 : Int) (f23 : Int) (f25 : Int) (f27 : Int) (f34 : Int) (g1 : (Int → Int)) (g4 : (Int → Int)) (g6 : (Int → Int)) (g13 : (Int → Int)) (g14 : (Int → Int)) (g19 : (Int → Int)) (g21 : (Int → Int)) (g22 : (Int → Int)) (g23 : (Int → Int)) (g25 : (Int → Int)) (g26 : (Int → Int)) : Option (Int × Int × Int × Int × Int × Int × Int × Int × Int × (Int → Int) × (Int → Int) × (Int → Int) × (Int → Int) × (Int → Int) × (Int → Int) × (Int → Int) × (Int → Int) × (Int → Int) × (Int → Int) × (Int → Int)) := if x4 < x1 then ((zf_View_open f20 g13).bind fun r22 => ((zf_Tape_byteAt (zi_w (2 * x4)) g0).bind fun r23 => (if r23 = 1 then ((zf_X_log_l2 1 f4 f6 f8 f10 f12 f14 f24 f26 f28 f29 f30 f31 g4 g6 g8 g15 g16 g17 g18 g20 g24 zi_fu 0 r22.1 f21 f22 f23 f25 f27 f34 g1 r22.2 g14 g19 g21 g22 g23 g25 g26).bind fun q36 => (if x4 < (zi_w (x1 - 1)) then ((zf_Tape_byteAt (zi_w ((zi_w (2 * x4)) + 1)) g0).bind fun r39 => ((zf_X_moveSpots r39 q36.2.2.2.2.2.2.2.1 g2).bind fun r40 => ((zf_Sky_passHour f6 f8 g4 g10 g6 g12).bind fun r41 => (rec (zi_w (x4 + 1)) r41.1 r41.2.1 q36.1 q36.2.1 q36.2.2.1 q36.2.2.2.1 q36.2.2.2.2.1 q36.2.2.2.2.2.1 q36.2.2.2.2.2.2.1 r40 r41.2.2.1 r41.2.2.2 q36.2.2.2.2.2.2.2.2.1 q36.2.2.2.2.2.2.2.2.2.1 q36.2.2.2.2.2.2.2.2.2.2.1 q36.2.2.2.2.2.2.2.2.2.2.2.1 q36.2.2.2.2.2.2.2.2.2.2.2.2.1 q36.2.2.2.2.2.2.2.2.2.2.2.2.2.1 q36.2.2.2.2.2.2.2.2.2.2.2.2.2.2.1 q36.2.2.2.2.2.2.2.2.2.2.2.2.2.2.2)))) else ((zf_Sky_passHour f6 f8 g4 g10 g6 g12).bind fun r38 => (rec (zi_w (x4 + 1)) r38.1 r38.2.1 q36.1 q36.2.1 q36.2.2.1 q36.2.2.2.1 q36.2.2.2.2.1 q36.2.2.2.2.2.1 q36.2.2.2.2.2.2.1 q36.2.2.2.2.2.2.2.1 r38.2.2.1 r38.2.2.2 q36.2.2.2.2.2.2.2.2.1 q36.2.2.2.2.2.2.2.2.2.1 q36.2.2.2.2.2.2.2.2.2.2.1 q36.2.2.2.2.2.2.2.2.2.2.2.1 q36.2.2.2.2.2.2.2.2.2.2.2.2.1 q36.2.2.2.2.2.2.2.2.2.2.2.2.2.1 q36.2.2.2.2.2.2.2.2.2.2.2.2.2.2.1 q36.2.2.2.2.2.2.2.2.2.2.2.2.2.2.2)))) else ((zf_X_log_l2 0 f4 f6 f8 f10 f12 f14 f24 f26 f28 f29 f30 f31 g4 g6 g8 g15 g16 g17 g18 g20 g24 zi_fu 0 r22.1 f21 f22 f23 f25 f27 f34 g1 r22.2 g14 g19 g21 g22 g23 g25 g26).bind fun q30 => (if x4 < (zi_w (x1 - 1)) then ((zf_Tape_byteAt (zi_w ((zi_w (2 * x4)) + 1)) g0).bind fun r33 => ((zf_X_moveSpots r33 q30.2.2.2.2.2.2.2.1 g2).bind fun r34 => ((zf_Sky_passHour f6 f8 g4 g10 g6 g12).bind fun r35 => (rec (zi_w (x4 + 1)) r35.1 r35.2.1 q30.1 q30.2.1 q30.2.2.1 q30.2.2.2.1 q30.2.2.2.2.1 q30.2.2.2.2.2.1 q30.2.2.2.2.2.2.1 r34 r35.2.2.1 r35.2.2.2 q30.2.2.2.2.2.2.2.2.1 q30.2.2.2.2.2.2.2.2.2.1 q30.2.2.2.2.2.2.2.2.2.2.1 q30.2.2.2.2.2.2.2.2.2.2.2.1 q30.2.2.2.2.2.2.2.2.2.2.2.2.1 q30.2.2.2.2.2.2.2.2.2.2.2.2.2.1 q30.2.2.2.2.2.2.2.2.2.2.2.2.2.2.1 q30.2.2.2.2.2.2.2.2.2.2.2.2.2.2.2)))) else ((zf_Sky_passHour f6 f8 g4 g10 g6 g12).bind fun r32 => (rec (zi_w (x4 + 1)) r32.1 r32.2.1 q30.1 q30.2.1 q30.2.2.1 q30.2.2.2.1 q30.2.2.2.2.1 q30.2.2.2.2.2.1 q30.2.2.2.2.2.2.1 q30.2.2.2.2.2.2.2.1 r32.2.2.1 r32.2.2.2 q30.2.2.2.2.2.2.2.2.1 q30.2.2.2.2.2.2.2.2.2.1 q30.2.2.2.2.2.2.2.2.2.2.1 q30.2.2.2.2.2.2.2.2.2.2.2.1 q30.2.2.2.2.2.2.2.2.2.2.2.2.1 q30.2.2.2.2.2.2.2.2.2.2.2.2.2.1 q30.2.2.2.2.2.2.2.2.2.2.2.2.2.2.1 q30.2.2.2.2.2.2.2.2.2.2.2.2.2.2.2))))))) else (some (f6, f8, f20, f21, f22, f23, f25, f27, f34, g1, g4, g6, g13, g14, g19, g21, g22, g23, g25, g26))
def zf_X_log_l1 (x1 : Int) (f4 : Int) (f10 : Int) (f12 : Int) (f14 : Int) (f24 : Int) (f26 : Int) (f28 : Int) (f29 : Int) (f30 : Int) (f31 : Int) (g0 : (Int → Int)) (g2 : (Int → Int)) (g8 : (Int → Int)) (g10 : (Int → Int)) (g12 : (Int → Int)) (g15 : (Int → Int)) (g16 : (Int → Int)) (g17 : (Int → Int)) (g18 : (Int → Int)) (g20 : (Int → Int)) (g24 : (Int → Int)) : Nat → Int → Int → Int → Int → Int → Int → Int → Int → Int → Int → (Int → Int) → (Int → Int) → (Int → Int) → (Int → Int) → (Int → Int) → (Int → Int) → (Int → Int) → (Int → Int) → (Int → Int) → (Int → Int) → (Int → Int) → Option (Int × Int × Int × Int × Int × Int × Int × Int × Int × (Int → Int) × (Int → Int) × (Int → Int) × (Int → Int) × (Int → Int) × (Int → Int) × (Int → Int) × (Int → Int) × (Int → Int) × (Int → Int) × (Int → Int))
  | 0, _, _, _, _, _, _, _, _, _, _, _, _, _, _, _, _, _, _, _, _, _ => none
  | n + 1, x4, f6, f8, f20, f21, f22, f23, f25, f27, f34, g1, g4, g6, g13, g14, g19, g21, g22, g23, g25, g26 => zf_X_log_l1_b x1 f4 f10 f12 f14 f24 f26 f28 f29 f30 f31 g0 g2 g8 g10 g12 g15 g16 g17 g18 g20 g24 (zf_X_log_l1 x1 f4 f10 f12 f14 f24 f26 f28 f29 f30 f31 g0 g2 g8 g10 g12 g15 g16 g17 g18 g20 g24 n) x4 f6 f8 f20 f21 f22 f23 f25 f27 f34 g1 g4 g6 g13 g14 g19 g21 g22 g23 g25 g26
def zf_X_log (x1 : Int) (x2 : Int) (f1 : Int) (f2 : Int) (f3 : Int) (f4 : Int) (f5 : Int) (f6 : Int) (f7 : Int) (f8 : Int) (f9 : Int) (f10 : Int) (f11 : Int) (f12 : Int) (f13 : Int) (f14 : Int) (f15 : Int) (f16 : Int) (f20 : Int) (f21 : Int) (f22 : Int) (f23 : Int) (f24 : Int) (f25 : Int) (f26 : Int) (f27 : Int) (f28 : Int) (f29 : Int) (f30 : Int) (f31 : Int) (f34 : Int) (g0 : (Int → Int)) (g1 : (Int → Int)) (g2 : (Int → Int)) (g3 : (Int → Int)) (g4 : (Int → Int)) (g5 : (Int → Int)) (g6 : (Int → Int)) (g7 : (Int → Int)) (g8 : (Int → Int)) (g9 : (Int → Int)) (g10 : (Int → Int)) (g11 : (Int → Int)) (g12 : (Int → Int)) (g13 : (Int → Int)) (g14 : (Int → Int)) (g15 : (Int → Int)) (g16 : (Int → Int)) (g17 : (Int → Int)) (g18 : (Int → Int)) (g19 : (Int → Int)) (g20 : (Int → Int)) (g21 : (Int → Int)) (g22 : (Int → Int)) (g23 : (Int → Int)) (g24 : (Int → Int)) (g25 : (Int → Int)) (g26 : (Int → Int)) : Option (Int × Int × Int × Int × Int × Int × Int × Int × Int × Int × Int × Int × Int × Int × Int × Int × (Int → Int) × (Int → Int) × (Int → Int) × (Int → Int) × (Int → Int) × (Int → Int) × (Int → Int) × (Int → Int) × (Int → Int) × (Int → Int) × (Int → Int) × (Int → Int) × (Int → Int) × (Int → Int)) := (zf_X_isWithin x1 1 12).bind fun r1 => (if r1 = 0 then (some ((-1), f2, f4, f6, f8, f10, f12, f14, f16, f20, f21, f22, f23, f25, f27, f34, g1, g4, g6, g8, g10, g12, g13, g14, g19, g21, g22, g23, g25, g26)) else ((zf_X_isWithin x2 0 1).bind fun r4 => (if r4 = 0 then (some ((-1), f2, f4, f6, f8, f10, f12, f14, f16, f20, f21, f22, f23, f25, f27, f34, g1, g4, g6, g8, g10, g12, g13, g14, g19, g21, g22, g23, g25, g26)) else (if f1 = 0 then (some ((-1), f2, f4, f6, f8, f10, f12, f14, f16, f20, f21, f22, f23, f25, f27, f34, g1, g4, g6, g8, g10, g12, g13, g14, g19, g21, g22, g23, g25, g26)) else ((zf_Tape_take (zi_w (2 * x1)) f2).bind fun r10 => (if r10.1 = 0 then (some ((-1), r10.2, f4, f6, f8, f10, f12, f14, f16, f20, f21, f22, f23, f25, f27, f34, g1, g4, g6, g8, g10, g12, g13, g14, g19, g21, g22, g23, g25, g26)) else ((zf_X_isLogBytes x1 g0).bind fun r12 => (if r12 = 0 then (some ((-2), r10.2, f4, f6, f8, f10, f12, f14, f16, f20, f21, f22, f23, f25, f27, f34, g1, g4, g6, g8, g10, g12, g13, g14, g19, g21, g22, g23, g25, g26)) else ((zf_X_log_l0 g2 zi_fu 0 g1).bind fun q19 => ((zf_Sky_copyFrom f3 f4 f5 f6 f7 f8 f9 f10 f11 f12 f13 f14 f15 f16 g3 g4 g5 g6 g7 g8 g9 g10 g11 g12).bind fun r20 => ((zf_X_log_l1 x1 r20.1 r20.2.2.2.1 r20.2.2.2.2.1 r20.2.2.2.2.2.1 f24 f26 f28 f29 f30 f31 g0 g2 r20.2.2.2.2.2.2.2.2.2.1 r20.2.2.2.2.2.2.2.2.2.2.1 r20.2.2.2.2.2.2.2.2.2.2.2 g15 g16 g17 g18 g20 g24 zi_fu 0 r20.2.1 r20.2.2.1 f20 f21 f22 f23 f25 f27 f34 q19 r20.2.2.2.2.2.2.2.1 r20.2.2.2.2.2.2.2.2.1 g13 g14 g19 g21 g22 g23 g25 g26).bind fun q42 => (if x2 = 0 then ((zf_X_countSpots q42.2.2.2.2.2.2.2.2.2.1).bind fun r45 => (some (r45, r10.2, r20.1, q42.1, q42.2.1, r20.2.2.2.1, r20.2.2.2.2.1, r20.2.2.2.2.2.1, r20.2.2.2.2.2.2.1, q42.2.2.1, q42.2.2.2.1, q42.2.2.2.2.1, q42.2.2.2.2.2.1, q42.2.2.2.2.2.2.1, q42.2.2.2.2.2.2.2.1, q42.2.2.2.2.2.2.2.2.1, q42.2.2.2.2.2.2.2.2.2.1, q42.2.2.2.2.2.2.2.2.2.2.1, q42.2.2.2.2.2.2.2.2.2.2.2.1, r20.2.2.2.2.2.2.2.2.2.1, r20.2.2.2.2.2.2.2.2.2.2.1, r20.2.2.2.2.2.2.2.2.2.2.2, q42.2.2.2.2.2.2.2.2.2.2.2.2.1, q42.2.2.2.2.2.2.2.2.2.2.2.2.2.1, q42.2.2.2.2.2.2.2.2.2.2.2.2.2.2.1, q42.2.2.2.2.2.2.2.2.2.2.2.2.2.2.2.1, q42.2.2.2.2.2.2.2.2.2.2.2.2.2.2.2.2.1, q42.2.2.2.2.2.2.2.2.2.2.2.2.2.2.2.2.2.1, q42.2.2.2.2.2.2.2.2.2.2.2.2.2.2.2.2.2.2.1, q42.2.2.2.2.2.2.2.2.2.2.2.2.2.2.2.2.2.2.2))) else ((zf_X_firstSpot q42.2.2.2.2.2.2.2.2.2.1).bind fun r44 => (some (r44, r10.2, r20.1, q42.1, q42.2.1, r20.2.2.2.1, r20.2.2.2.2.1, r20.2.2.2.2.2.1, r20.2.2.2.2.2.2.1, q42.2.2.1, q42.2.2.2.1, q42.2.2.2.2.1, q42.2.2.2.2.2.1, q42.2.2.2.2.2.2.1, q42.2.2.2.2.2.2.2.1, q42.2.2.2.2.2.2.2.2.1, q42.2.2.2.2.2.2.2.2.2.1, q42.2.2.2.2.2.2.2.2.2.2.1, q42.2.2.2.2.2.2.2.2.2.2.2.1, r20.2.2.2.2.2.2.2.2.2.1, r20.2.2.2.2.2.2.2.2.2.2.1, r20.2.2.2.2.2.2.2.2.2.2.2, q42.2.2.2.2.2.2.2.2.2.2.2.2.1, q42.2.2.2.2.2.2.2.2.2.2.2.2.2.1, q42.2.2.2.2.2.2.2.2.2.2.2.2.2.2.1, q42.2.2.2.2.2.2.2.2.2.2.2.2.2.2.2.1, q42.2.2.2.2.2.2.2.2.2.2.2.2.2.2.2.2.1, q42.2.2.2.2.2.2.2.2.2.2.2.2.2.2.2.2.2.1, q42.2.2.2.2.2.2.2.2.2.2.2.2.2.2.2.2.2.2.1, q42.2.2.2.2.2.2.2.2.2.2.2.2.2.2.2.2.2.2.2)))))))))))))))
theorem zd182_0 : decode zxm182.2.1 0 = .ok (.iload_n 1, 1) := by decide +kernel
theorem zd182_1 : decode zxm182.2.1 1 = .ok (.iconst 1, 1) := by decide +kernel
theorem zd182_2 : decode zxm182.2.1 2 = .ok (.bipush 12, 2) := by decide +kernel
theorem zd182_4 : decode zxm182.2.1 4 = .ok (.invokestatic 126, 3) := by decide +kernel
theorem zd182_7 : decode zxm182.2.1 7 = .ok (.ifCond .eq 26, 3) := by decide +kernel
theorem zd182_10 : decode zxm182.2.1 10 = .ok (.iload_n 2, 1) := by decide +kernel
theorem zd182_11 : decode zxm182.2.1 11 = .ok (.iconst 0, 1) := by decide +kernel
theorem zd182_12 : decode zxm182.2.1 12 = .ok (.iconst 1, 1) := by decide +kernel
theorem zd182_13 : decode zxm182.2.1 13 = .ok (.invokestatic 126, 3) := by decide +kernel
theorem zd182_16 : decode zxm182.2.1 16 = .ok (.ifCond .eq 17, 3) := by decide +kernel
theorem zd182_19 : decode zxm182.2.1 19 = .ok (.aload_n 0, 1) := by decide +kernel
theorem zd182_20 : decode zxm182.2.1 20 = .ok (.getfield 69, 3) := by decide +kernel
theorem zd182_23 : decode zxm182.2.1 23 = .ok (.getfield 253, 3) := by decide +kernel
theorem zd182_26 : decode zxm182.2.1 26 = .ok (.ifCond .eq 7, 3) := by decide +kernel
theorem zd182_29 : decode zxm182.2.1 29 = .ok (.iconst 1, 1) := by decide +kernel
theorem zd182_30 : decode zxm182.2.1 30 = .ok (.goto 4, 3) := by decide +kernel
theorem zd182_33 : decode zxm182.2.1 33 = .ok (.iconst 0, 1) := by decide +kernel
theorem zd182_34 : decode zxm182.2.1 34 = .ok (.istore_n 3, 1) := by decide +kernel
theorem zd182_35 : decode zxm182.2.1 35 = .ok (.iload_n 3, 1) := by decide +kernel
theorem zd182_36 : decode zxm182.2.1 36 = .ok (.ifCond .eq 16, 3) := by decide +kernel
theorem zd182_39 : decode zxm182.2.1 39 = .ok (.aload_n 0, 1) := by decide +kernel
theorem zd182_40 : decode zxm182.2.1 40 = .ok (.getfield 39, 3) := by decide +kernel
theorem zd182_43 : decode zxm182.2.1 43 = .ok (.iconst 2, 1) := by decide +kernel
theorem zd182_44 : decode zxm182.2.1 44 = .ok (.iload_n 1, 1) := by decide +kernel
theorem zd182_45 : decode zxm182.2.1 45 = .ok (.imul, 1) := by decide +kernel
theorem zd182_46 : decode zxm182.2.1 46 = .ok (.invokevirtual 197, 3) := by decide +kernel
theorem zd182_49 : decode zxm182.2.1 49 = .ok (.ifCond .ne 5, 3) := by decide +kernel
theorem zd182_52 : decode zxm182.2.1 52 = .ok (.iconst (-1), 1) := by decide +kernel
theorem zd182_53 : decode zxm182.2.1 53 = .ok (.ireturn, 1) := by decide +kernel
theorem zd182_54 : decode zxm182.2.1 54 = .ok (.aload_n 0, 1) := by decide +kernel
theorem zd182_55 : decode zxm182.2.1 55 = .ok (.iload_n 1, 1) := by decide +kernel
theorem zd182_56 : decode zxm182.2.1 56 = .ok (.invokevirtual 383, 3) := by decide +kernel
theorem zd182_59 : decode zxm182.2.1 59 = .ok (.ifCond .ne 6, 3) := by decide +kernel
theorem zd182_62 : decode zxm182.2.1 62 = .ok (.bipush (-2), 2) := by decide +kernel
theorem zd182_64 : decode zxm182.2.1 64 = .ok (.ireturn, 1) := by decide +kernel
theorem zd182_65 : decode zxm182.2.1 65 = .ok (.iconst 0, 1) := by decide +kernel
theorem zd182_66 : decode zxm182.2.1 66 = .ok (.istore 4, 2) := by decide +kernel
theorem zd182_68 : decode zxm182.2.1 68 = .ok (.iload 4, 2) := by decide +kernel
theorem zd182_70 : decode zxm182.2.1 70 = .ok (.sipush 288, 3) := by decide +kernel
theorem zd182_73 : decode zxm182.2.1 73 = .ok (.if_icmp .ge 34, 3) := by decide +kernel
theorem zd182_76 : decode zxm182.2.1 76 = .ok (.aload_n 0, 1) := by decide +kernel
theorem zd182_77 : decode zxm182.2.1 77 = .ok (.getfield 123, 3) := by decide +kernel
theorem zd182_80 : decode zxm182.2.1 80 = .ok (.iload 4, 2) := by decide +kernel
theorem zd182_82 : decode zxm182.2.1 82 = .ok (.aload_n 0, 1) := by decide +kernel
theorem zd182_83 : decode zxm182.2.1 83 = .ok (.getfield 25, 3) := by decide +kernel
theorem zd182_86 : decode zxm182.2.1 86 = .ok (.iload 4, 2) := by decide +kernel
theorem zd182_88 : decode zxm182.2.1 88 = .ok (.invokevirtual 181, 3) := by decide +kernel
theorem zd182_91 : decode zxm182.2.1 91 = .ok (.ifCond .eq 7, 3) := by decide +kernel
theorem zd182_94 : decode zxm182.2.1 94 = .ok (.iconst (-1), 1) := by decide +kernel
theorem zd182_95 : decode zxm182.2.1 95 = .ok (.goto 5, 3) := by decide +kernel
theorem zd182_98 : decode zxm182.2.1 98 = .ok (.iload 4, 2) := by decide +kernel
theorem zd182_100 : decode zxm182.2.1 100 = .ok (.iastore, 1) := by decide +kernel
theorem zd182_101 : decode zxm182.2.1 101 = .ok (.iinc 4 1, 3) := by decide +kernel
theorem zd182_104 : decode zxm182.2.1 104 = .ok (.goto (-36), 3) := by decide +kernel
theorem zd182_107 : decode zxm182.2.1 107 = .ok (.aload_n 0, 1) := by decide +kernel
theorem zd182_108 : decode zxm182.2.1 108 = .ok (.getfield 19, 3) := by decide +kernel
theorem zd182_111 : decode zxm182.2.1 111 = .ok (.aload_n 0, 1) := by decide +kernel
theorem zd182_112 : decode zxm182.2.1 112 = .ok (.getfield 10, 3) := by decide +kernel
theorem zd182_115 : decode zxm182.2.1 115 = .ok (.invokevirtual 273, 3) := by decide +kernel
theorem zd182_118 : decode zxm182.2.1 118 = .ok (.iconst 0, 1) := by decide +kernel
theorem zd182_119 : decode zxm182.2.1 119 = .ok (.istore 4, 2) := by decide +kernel
theorem zd182_121 : decode zxm182.2.1 121 = .ok (.iload 4, 2) := by decide +kernel
theorem zd182_123 : decode zxm182.2.1 123 = .ok (.iload_n 1, 1) := by decide +kernel
theorem zd182_124 : decode zxm182.2.1 124 = .ok (.if_icmp .ge 130, 3) := by decide +kernel
theorem zd182_127 : decode zxm182.2.1 127 = .ok (.aload_n 0, 1) := by decide +kernel
theorem zd182_128 : decode zxm182.2.1 128 = .ok (.getfield 81, 3) := by decide +kernel
theorem zd182_131 : decode zxm182.2.1 131 = .ok (.aload_n 0, 1) := by decide +kernel
theorem zd182_132 : decode zxm182.2.1 132 = .ok (.getfield 19, 3) := by decide +kernel
theorem zd182_135 : decode zxm182.2.1 135 = .ok (.aload_n 0, 1) := by decide +kernel
theorem zd182_136 : decode zxm182.2.1 136 = .ok (.getfield 46, 3) := by decide +kernel
theorem zd182_139 : decode zxm182.2.1 139 = .ok (.invokevirtual 211, 3) := by decide +kernel
theorem zd182_142 : decode zxm182.2.1 142 = .ok (.aload_n 0, 1) := by decide +kernel
theorem zd182_143 : decode zxm182.2.1 143 = .ok (.getfield 39, 3) := by decide +kernel
theorem zd182_146 : decode zxm182.2.1 146 = .ok (.iconst 2, 1) := by decide +kernel
theorem zd182_147 : decode zxm182.2.1 147 = .ok (.iload 4, 2) := by decide +kernel
theorem zd182_149 : decode zxm182.2.1 149 = .ok (.imul, 1) := by decide +kernel
theorem zd182_150 : decode zxm182.2.1 150 = .ok (.invokevirtual 303, 3) := by decide +kernel
theorem zd182_153 : decode zxm182.2.1 153 = .ok (.iconst 1, 1) := by decide +kernel
theorem zd182_154 : decode zxm182.2.1 154 = .ok (.if_icmp .ne 7, 3) := by decide +kernel
theorem zd182_157 : decode zxm182.2.1 157 = .ok (.iconst 1, 1) := by decide +kernel
theorem zd182_158 : decode zxm182.2.1 158 = .ok (.goto 4, 3) := by decide +kernel
theorem zd182_161 : decode zxm182.2.1 161 = .ok (.iconst 0, 1) := by decide +kernel
theorem zd182_162 : decode zxm182.2.1 162 = .ok (.istore 5, 2) := by decide +kernel
theorem zd182_164 : decode zxm182.2.1 164 = .ok (.iconst 0, 1) := by decide +kernel
theorem zd182_165 : decode zxm182.2.1 165 = .ok (.istore 6, 2) := by decide +kernel
theorem zd182_167 : decode zxm182.2.1 167 = .ok (.iload 6, 2) := by decide +kernel
theorem zd182_169 : decode zxm182.2.1 169 = .ok (.sipush 288, 3) := by decide +kernel
theorem zd182_172 : decode zxm182.2.1 172 = .ok (.if_icmp .ge 44, 3) := by decide +kernel
theorem zd182_175 : decode zxm182.2.1 175 = .ok (.aload_n 0, 1) := by decide +kernel
theorem zd182_176 : decode zxm182.2.1 176 = .ok (.getfield 123, 3) := by decide +kernel
theorem zd182_179 : decode zxm182.2.1 179 = .ok (.iload 6, 2) := by decide +kernel
theorem zd182_181 : decode zxm182.2.1 181 = .ok (.iaload, 1) := by decide +kernel
theorem zd182_182 : decode zxm182.2.1 182 = .ok (.iconst (-1), 1) := by decide +kernel
theorem zd182_183 : decode zxm182.2.1 183 = .ok (.if_icmp .eq 27, 3) := by decide +kernel
theorem zd182_186 : decode zxm182.2.1 186 = .ok (.aload_n 0, 1) := by decide +kernel
theorem zd182_187 : decode zxm182.2.1 187 = .ok (.aload_n 0, 1) := by decide +kernel
theorem zd182_188 : decode zxm182.2.1 188 = .ok (.getfield 123, 3) := by decide +kernel
theorem zd182_191 : decode zxm182.2.1 191 = .ok (.iload 6, 2) := by decide +kernel
theorem zd182_193 : decode zxm182.2.1 193 = .ok (.iaload, 1) := by decide +kernel
theorem zd182_194 : decode zxm182.2.1 194 = .ok (.invokevirtual 270, 3) := by decide +kernel
theorem zd182_197 : decode zxm182.2.1 197 = .ok (.iload 5, 2) := by decide +kernel
theorem zd182_199 : decode zxm182.2.1 199 = .ok (.if_icmp .eq 11, 3) := by decide +kernel
theorem zd182_202 : decode zxm182.2.1 202 = .ok (.aload_n 0, 1) := by decide +kernel
theorem zd182_203 : decode zxm182.2.1 203 = .ok (.getfield 123, 3) := by decide +kernel
theorem zd182_206 : decode zxm182.2.1 206 = .ok (.iload 6, 2) := by decide +kernel
theorem zd182_208 : decode zxm182.2.1 208 = .ok (.iconst (-1), 1) := by decide +kernel
theorem zd182_209 : decode zxm182.2.1 209 = .ok (.iastore, 1) := by decide +kernel
theorem zd182_210 : decode zxm182.2.1 210 = .ok (.iinc 6 1, 3) := by decide +kernel
theorem zd182_213 : decode zxm182.2.1 213 = .ok (.goto (-46), 3) := by decide +kernel
theorem zd182_216 : decode zxm182.2.1 216 = .ok (.iload 4, 2) := by decide +kernel
theorem zd182_218 : decode zxm182.2.1 218 = .ok (.iload_n 1, 1) := by decide +kernel
theorem zd182_219 : decode zxm182.2.1 219 = .ok (.iconst 1, 1) := by decide +kernel
theorem zd182_220 : decode zxm182.2.1 220 = .ok (.isub, 1) := by decide +kernel
theorem zd182_221 : decode zxm182.2.1 221 = .ok (.if_icmp .ge 20, 3) := by decide +kernel
theorem zd182_224 : decode zxm182.2.1 224 = .ok (.aload_n 0, 1) := by decide +kernel
theorem zd182_225 : decode zxm182.2.1 225 = .ok (.aload_n 0, 1) := by decide +kernel
theorem zd182_226 : decode zxm182.2.1 226 = .ok (.getfield 39, 3) := by decide +kernel
theorem zd182_229 : decode zxm182.2.1 229 = .ok (.iconst 2, 1) := by decide +kernel
theorem zd182_230 : decode zxm182.2.1 230 = .ok (.iload 4, 2) := by decide +kernel
theorem zd182_232 : decode zxm182.2.1 232 = .ok (.imul, 1) := by decide +kernel
theorem zd182_233 : decode zxm182.2.1 233 = .ok (.iconst 1, 1) := by decide +kernel
theorem zd182_234 : decode zxm182.2.1 234 = .ok (.iadd, 1) := by decide +kernel
theorem zd182_235 : decode zxm182.2.1 235 = .ok (.invokevirtual 303, 3) := by decide +kernel
theorem zd182_238 : decode zxm182.2.1 238 = .ok (.invokevirtual 386, 3) := by decide +kernel
theorem zd182_241 : decode zxm182.2.1 241 = .ok (.aload_n 0, 1) := by decide +kernel
theorem zd182_242 : decode zxm182.2.1 242 = .ok (.getfield 19, 3) := by decide +kernel
theorem zd182_245 : decode zxm182.2.1 245 = .ok (.invokevirtual 334, 3) := by decide +kernel
theorem zd182_248 : decode zxm182.2.1 248 = .ok (.iinc 4 1, 3) := by decide +kernel
theorem zd182_251 : decode zxm182.2.1 251 = .ok (.goto (-130), 3) := by decide +kernel
theorem zd182_254 : decode zxm182.2.1 254 = .ok (.iload_n 2, 1) := by decide +kernel
theorem zd182_255 : decode zxm182.2.1 255 = .ok (.ifCond .ne 10, 3) := by decide +kernel
theorem zd182_258 : decode zxm182.2.1 258 = .ok (.aload_n 0, 1) := by decide +kernel
theorem zd182_259 : decode zxm182.2.1 259 = .ok (.invokevirtual 389, 3) := by decide +kernel
theorem zd182_262 : decode zxm182.2.1 262 = .ok (.goto 7, 3) := by decide +kernel
theorem zd182_265 : decode zxm182.2.1 265 = .ok (.aload_n 0, 1) := by decide +kernel
theorem zd182_266 : decode zxm182.2.1 266 = .ok (.invokevirtual 392, 3) := by decide +kernel
theorem zd182_269 : decode zxm182.2.1 269 = .ok (.ireturn, 1) := by decide +kernel
theorem zt_X_log {x1 : Int} {x2 : Int} {f1 : Int} {f2 : Int} {f3 : Int} {f4 : Int} {f5 : Int} {f6 : Int} {f7 : Int} {f8 : Int} {f9 : Int} {f10 : Int} {f11 : Int} {f12 : Int} {f13 : Int} {f14 : Int} {f15 : Int} {f16 : Int} {f20 : Int} {f21 : Int} {f22 : Int} {f23 : Int} {f24 : Int} {f25 : Int} {f26 : Int} {f27 : Int} {f28 : Int} {f29 : Int} {f30 : Int} {f31 : Int} {f34 : Int} {g0 : (Int → Int)} {g1 : (Int → Int)} {g2 : (Int → Int)} {g3 : (Int → Int)} {g4 : (Int → Int)} {g5 : (Int → Int)} {g6 : (Int → Int)} {g7 : (Int → Int)} {g8 : (Int → Int)} {g9 : (Int → Int)} {g10 : (Int → Int)} {g11 : (Int → Int)} {g12 : (Int → Int)} {g13 : (Int → Int)} {g14 : (Int → Int)} {g15 : (Int → Int)} {g16 : (Int → Int)} {g17 : (Int → Int)} {g18 : (Int → Int)} {g19 : (Int → Int)} {g20 : (Int → Int)} {g21 : (Int → Int)} {g22 : (Int → Int)} {g23 : (Int → Int)} {g24 : (Int → Int)} {g25 : (Int → Int)} {g26 : (Int → Int)} {o : Int × Int × Int × Int × Int × Int × Int × Int × Int × Int × Int × Int × Int × Int × Int × Int × (Int → Int) × (Int → Int) × (Int → Int) × (Int → Int) × (Int → Int) × (Int → Int) × (Int → Int) × (Int → Int) × (Int → Int) × (Int → Int) × (Int → Int) × (Int → Int) × (Int → Int) × (Int → Int)} (h : zf_X_log x1 x2 f1 f2 f3 f4 f5 f6 f7 f8 f9 f10 f11 f12 f13 f14 f15 f16 f20 f21 f22 f23 f24 f25 f26 f27 f28 f29 f30 f31 f34 g0 g1 g2 g3 g4 g5 g6 g7 g8 g9 g10 g11 g12 g13 g14 g15 g16 g17 g18 g19 g20 g21 g22 g23 g24 g25 g26 = some o) : zv_Fn z_TB z_cl z_KX zy_X_log zxm182 (14, 840) [.inr 0, .inl x1, .inl x2] [.inr 1, .inl f1, .inl f2, .inl f3, .inl f4, .inl f5, .inl f6, .inl f7, .inl f8, .inl f9, .inl f10, .inl f11, .inl f12, .inl f13, .inl f14, .inl f15, .inl f16, .inr 20, .inr 1000, .inr 1000, .inl f20, .inl f21, .inl f22, .inl f23, .inl f24, .inl f25, .inl f26, .inl f27, .inl f28, .inl f29, .inl f30, .inl f31, .inr 1000, .inr 1000, .inl f34] [g0, g1, g2, g3, g4, g5, g6, g7, g8, g9, g10, g11, g12, g13, g14, g15, g16, g17, g18, g19, g20, g21, g22, g23, g24, g25, g26] (some o.1) [.inr 1, .inl f1, .inl o.2.1, .inl f3, .inl o.2.2.1, .inl f5, .inl o.2.2.2.1, .inl f7, .inl o.2.2.2.2.1, .inl f9, .inl o.2.2.2.2.2.1, .inl f11, .inl o.2.2.2.2.2.2.1, .inl f13, .inl o.2.2.2.2.2.2.2.1, .inl f15, .inl o.2.2.2.2.2.2.2.2.1, .inr 20, .inr 1000, .inr 1000, .inl o.2.2.2.2.2.2.2.2.2.1, .inl o.2.2.2.2.2.2.2.2.2.2.1, .inl o.2.2.2.2.2.2.2.2.2.2.2.1, .inl o.2.2.2.2.2.2.2.2.2.2.2.2.1, .inl f24, .inl o.2.2.2.2.2.2.2.2.2.2.2.2.2.1, .inl f26, .inl o.2.2.2.2.2.2.2.2.2.2.2.2.2.2.1, .inl f28, .inl f29, .inl f30, .inl f31, .inr 1000, .inr 1000, .inl o.2.2.2.2.2.2.2.2.2.2.2.2.2.2.2.1] [g0, o.2.2.2.2.2.2.2.2.2.2.2.2.2.2.2.2.1, g2, g3, o.2.2.2.2.2.2.2.2.2.2.2.2.2.2.2.2.2.1, g5, o.2.2.2.2.2.2.2.2.2.2.2.2.2.2.2.2.2.2.1, g7, o.2.2.2.2.2.2.2.2.2.2.2.2.2.2.2.2.2.2.2.1, g9, o.2.2.2.2.2.2.2.2.2.2.2.2.2.2.2.2.2.2.2.2.1, g11, o.2.2.2.2.2.2.2.2.2.2.2.2.2.2.2.2.2.2.2.2.2.1, o.2.2.2.2.2.2.2.2.2.2.2.2.2.2.2.2.2.2.2.2.2.2.1, o.2.2.2.2.2.2.2.2.2.2.2.2.2.2.2.2.2.2.2.2.2.2.2.1, g15, g16, g17, g18, o.2.2.2.2.2.2.2.2.2.2.2.2.2.2.2.2.2.2.2.2.2.2.2.2.1, g20, o.2.2.2.2.2.2.2.2.2.2.2.2.2.2.2.2.2.2.2.2.2.2.2.2.2.1, o.2.2.2.2.2.2.2.2.2.2.2.2.2.2.2.2.2.2.2.2.2.2.2.2.2.2.1, o.2.2.2.2.2.2.2.2.2.2.2.2.2.2.2.2.2.2.2.2.2.2.2.2.2.2.2.1, g24, o.2.2.2.2.2.2.2.2.2.2.2.2.2.2.2.2.2.2.2.2.2.2.2.2.2.2.2.2.1, o.2.2.2.2.2.2.2.2.2.2.2.2.2.2.2.2.2.2.2.2.2.2.2.2.2.2.2.2.2] := zv_meth (K := (z_KF0, z_KC0, z_KL0, z_KT0, [], [], [], none)) (FT := z_FT) (MT := z_MT) (n := 3) zxp182 (z_ks0 _ (fun _ h => List.mem_cons_of_mem _ h) _ _ _ _ (fun j r h _ => by cases h)) (fun _ _ => zs_KX_p) zyw_X_log (fun va F G h => by obtain ⟨rfl, _⟩ := h; rfl) (fun va F G h => by obtain ⟨rfl, _⟩ := h; rfl) rfl fun good va F G hB hret hvret hP => by
  obtain ⟨rfl, rfl, rfl⟩ := hP
  have l0 : ∀ (n : Nat) (x1 : Int) (x2 : Int) (x4 : Int) (f2 : Int) (f4 : Int) (f6 : Int) (f8 : Int) (f10 : Int) (f12 : Int) (f14 : Int) (f16 : Int) (f20 : Int) (f21 : Int) (f22 : Int) (f23 : Int) (f25 : Int) (f27 : Int) (f34 : Int) (g1 : (Int → Int)) (g4 : (Int → Int)) (g6 : (Int → Int)) (g8 : (Int → Int)) (g10 : (Int → Int)) (g12 : (Int → Int)) (g13 : (Int → Int)) (g14 : (Int → Int)) (g19 : (Int → Int)) (g21 : (Int → Int)) (g22 : (Int → Int)) (g23 : (Int → Int)) (g25 : (Int → Int)) (g26 : (Int → Int)) (q : (Int → Int)), zf_X_log_l0 g2 n x4 g1 = some q → (good 107 [.inr 0, .inl x1, .inl x2, .inr 1000, .inr 1000, .inr 1000, .inr 1000] [] [.inr 1, .inl f1, .inl f2, .inl f3, .inl f4, .inl f5, .inl f6, .inl f7, .inl f8, .inl f9, .inl f10, .inl f11, .inl f12, .inl f13, .inl f14, .inl f15, .inl f16, .inr 20, .inr 1000, .inr 1000, .inl f20, .inl f21, .inl f22, .inl f23, .inl f24, .inl f25, .inl f26, .inl f27, .inl f28, .inl f29, .inl f30, .inl f31, .inr 1000, .inr 1000, .inl f34] [g0, q, g2, g3, g4, g5, g6, g7, g8, g9, g10, g11, g12, g13, g14, g15, g16, g17, g18, g19, g20, g21, g22, g23, g24, g25, g26]) → good 68 [.inr 0, .inl x1, .inl x2, .inr 1000, .inl x4, .inr 1000, .inr 1000] [] [.inr 1, .inl f1, .inl f2, .inl f3, .inl f4, .inl f5, .inl f6, .inl f7, .inl f8, .inl f9, .inl f10, .inl f11, .inl f12, .inl f13, .inl f14, .inl f15, .inl f16, .inr 20, .inr 1000, .inr 1000, .inl f20, .inl f21, .inl f22, .inl f23, .inl f24, .inl f25, .inl f26, .inl f27, .inl f28, .inl f29, .inl f30, .inl f31, .inr 1000, .inr 1000, .inl f34] [g0, g1, g2, g3, g4, g5, g6, g7, g8, g9, g10, g11, g12, g13, g14, g15, g16, g17, g18, g19, g20, g21, g22, g23, g24, g25, g26] := by
    intro n
    induction n with
    | zero => intro x1 x2 x4 f2 f4 f6 f8 f10 f12 f14 f16 f20 f21 f22 f23 f25 f27 f34 g1 g4 g6 g8 g10 g12 g13 g14 g19 g21 g22 g23 g25 g26 q h; exact absurd (show none = some q from h) (fun h => by cases h)
    | succ n ih =>
      intro x1 x2 x4 f2 f4 f6 f8 f10 f12 f14 f16 f20 f21 f22 f23 f25 f27 f34 g1 g4 g6 g8 g10 g12 g13 g14 g19 g21 g22 g23 g25 g26 q h hK
      replace h : zf_X_log_l0_b g2 (zf_X_log_l0 g2 n) x4 g1 = some q := h
      unfold zf_X_log_l0_b at h
      refine zv_ild hB zd182_68 rfl rfl ?_
      refine zv_con hB zd182_70 rfl ?_
      refine zv_cge hB zd182_73 rfl (fun hc14 => ?_) (fun hc14 => ?_)
      · rw [if_neg (Int.not_lt.mpr hc14)] at h
        have hq := Option.some.inj h
        subst hq
        refine zv_wk hB (L' := [.inr 0, .inl x1, .inl x2, .inr 1000, .inr 1000, .inr 1000, .inr 1000]) (F' := [.inr 1, .inl f1, .inl f2, .inl f3, .inl f4, .inl f5, .inl f6, .inl f7, .inl f8, .inl f9, .inl f10, .inl f11, .inl f12, .inl f13, .inl f14, .inl f15, .inl f16, .inr 20, .inr 1000, .inr 1000, .inl f20, .inl f21, .inl f22, .inl f23, .inl f24, .inl f25, .inl f26, .inl f27, .inl f28, .inl f29, .inl f30, .inl f31, .inr 1000, .inr 1000, .inl f34]) ⟨fun _ => rfl, fun _ => rfl, fun _ => rfl, fun (h : zv_is (.inr 1000)) => (Nat.lt_irrefl 1000 h).elim, fun (h : zv_is (.inr 1000)) => (Nat.lt_irrefl 1000 h).elim, fun (h : zv_is (.inr 1000)) => (Nat.lt_irrefl 1000 h).elim, fun (h : zv_is (.inr 1000)) => (Nat.lt_irrefl 1000 h).elim, trivial⟩ ⟨fun _ => rfl, fun _ => rfl, fun _ => rfl, fun _ => rfl, fun _ => rfl, fun _ => rfl, fun _ => rfl, fun _ => rfl, fun _ => rfl, fun _ => rfl, fun _ => rfl, fun _ => rfl, fun _ => rfl, fun _ => rfl, fun _ => rfl, fun _ => rfl, fun _ => rfl, fun _ => rfl, fun (h : zv_is (.inr 1000)) => (Nat.lt_irrefl 1000 h).elim, fun (h : zv_is (.inr 1000)) => (Nat.lt_irrefl 1000 h).elim, fun _ => rfl, fun _ => rfl, fun _ => rfl, fun _ => rfl, fun _ => rfl, fun _ => rfl, fun _ => rfl, fun _ => rfl, fun _ => rfl, fun _ => rfl, fun _ => rfl, fun _ => rfl, fun (h : zv_is (.inr 1000)) => (Nat.lt_irrefl 1000 h).elim, fun (h : zv_is (.inr 1000)) => (Nat.lt_irrefl 1000 h).elim, fun _ => rfl, trivial⟩ ?_
        exact hK
      · rw [if_pos hc14] at h
        refine zv_ald hB zd182_76 rfl rfl rfl ?_
        refine zv_getr hB zd182_77 rfl ?_
        refine zv_ild hB zd182_80 rfl rfl ?_
        refine zv_ald hB zd182_82 rfl rfl rfl ?_
        refine zv_getr hB zd182_83 rfl ?_
        refine zv_ild hB zd182_86 rfl rfl ?_
        obtain ⟨r15, hr15, h⟩ := zi_bind h
        refine zv_cv hB (zv_emq (va2 := [.inr 5, .inl x4]) (F := [.inr 1, .inl f1, .inl f2, .inl f3, .inl f4, .inl f5, .inl f6, .inl f7, .inl f8, .inl f9, .inl f10, .inl f11, .inl f12, .inl f13, .inl f14, .inl f15, .inl f16, .inr 20, .inr 1000, .inr 1000, .inl f20, .inl f21, .inl f22, .inl f23, .inl f24, .inl f25, .inl f26, .inl f27, .inl f28, .inl f29, .inl f30, .inl f31, .inr 1000, .inr 1000, .inl f34]) (F' := [.inr 1, .inl f1, .inl f2, .inl f3, .inl f4, .inl f5, .inl f6, .inl f7, .inl f8, .inl f9, .inl f10, .inl f11, .inl f12, .inl f13, .inl f14, .inl f15, .inl f16, .inr 20, .inr 1000, .inr 1000, .inl f20, .inl f21, .inl f22, .inl f23, .inl f24, .inl f25, .inl f26, .inl f27, .inl f28, .inl f29, .inl f30, .inl f31, .inr 1000, .inr 1000, .inl f34]) (G := [g0, g1, g2, g3, g4, g5, g6, g7, g8, g9, g10, g11, g12, g13, g14, g15, g16, g17, g18, g19, g20, g21, g22, g23, g24, g25, g26]) (G' := [g0, g1, g2, g3, g4, g5, g6, g7, g8, g9, g10, g11, g12, g13, g14, g15, g16, g17, g18, g19, g20, g21, g22, g23, g24, g25, g26]) (ρ := [5, 6]) (φ := []) (ψ := [2]) [none, none, none, none, none, none, none, none, none, none, none, none, none, none, none, none, none, none, none, none, none, none, none, none, none, none, none, none, none, none, none, none, none, none, none] [none, none, some 0, none, none, none, none, none, none, none, none, none, none, none, none, none, none, none, none, none, none, none, none, none, none, none, none] zyw_Sea_isLand zyw_X_log zye_X_log (by decide +kernel) (zt_Sea_isLand hr15) trivial ⟨rfl, trivial⟩ rfl rfl rfl rfl rfl rfl rfl) zd182_88 zxt29 rfl (by decide) (by decide) rfl ?_
        refine zv_zeq hB zd182_91 rfl (fun hc16 => ?_) (fun hc16 => ?_)
        · rw [if_pos hc16] at h
          refine zv_ild hB zd182_98 rfl rfl ?_
          obtain ⟨c17, h⟩ := zi_if h
          refine zv_iast hB zd182_100 rfl rfl (zi_ix_ok c17).1 (zi_ix_ok c17).2 ?_
          refine zv_iincw hB zd182_101 rfl rfl ?_
          refine zv_goto hB zd182_104 rfl ?_
          exact ih _ _ _ _ _ _ _ _ _ _ _ _ _ _ _ _ _ _ _ _ _ _ _ _ _ _ _ _ _ _ _ _ q h hK
        · rw [if_neg hc16] at h
          refine zv_con hB zd182_94 rfl ?_
          refine zv_goto hB zd182_95 rfl ?_
          obtain ⟨c18, h⟩ := zi_if h
          refine zv_iast hB zd182_100 rfl rfl (zi_ix_ok c18).1 (zi_ix_ok c18).2 ?_
          refine zv_iincw hB zd182_101 rfl rfl ?_
          refine zv_goto hB zd182_104 rfl ?_
          exact ih _ _ _ _ _ _ _ _ _ _ _ _ _ _ _ _ _ _ _ _ _ _ _ _ _ _ _ _ _ _ _ _ q h hK
  have l2 : ∀ (n : Nat) (x1 : Int) (x2 : Int) (x4 : Int) (x5 : Int) (x6 : Int) (f2 : Int) (f4 : Int) (f6 : Int) (f8 : Int) (f10 : Int) (f12 : Int) (f14 : Int) (f16 : Int) (f20 : Int) (f21 : Int) (f22 : Int) (f23 : Int) (f25 : Int) (f27 : Int) (f34 : Int) (g1 : (Int → Int)) (g4 : (Int → Int)) (g6 : (Int → Int)) (g8 : (Int → Int)) (g10 : (Int → Int)) (g12 : (Int → Int)) (g13 : (Int → Int)) (g14 : (Int → Int)) (g19 : (Int → Int)) (g21 : (Int → Int)) (g22 : (Int → Int)) (g23 : (Int → Int)) (g25 : (Int → Int)) (g26 : (Int → Int)) (q : Int × Int × Int × Int × Int × Int × Int × (Int → Int) × (Int → Int) × (Int → Int) × (Int → Int) × (Int → Int) × (Int → Int) × (Int → Int) × (Int → Int) × (Int → Int)), zf_X_log_l2 x5 f4 f6 f8 f10 f12 f14 f24 f26 f28 f29 f30 f31 g4 g6 g8 g15 g16 g17 g18 g20 g24 n x6 f20 f21 f22 f23 f25 f27 f34 g1 g13 g14 g19 g21 g22 g23 g25 g26 = some q → (good 216 [.inr 0, .inl x1, .inl x2, .inr 1000, .inl x4, .inr 1000, .inr 1000] [] [.inr 1, .inl f1, .inl f2, .inl f3, .inl f4, .inl f5, .inl f6, .inl f7, .inl f8, .inl f9, .inl f10, .inl f11, .inl f12, .inl f13, .inl f14, .inl f15, .inl f16, .inr 20, .inr 7, .inr 20, .inl q.1, .inl q.2.1, .inl q.2.2.1, .inl q.2.2.2.1, .inl f24, .inl q.2.2.2.2.1, .inl f26, .inl q.2.2.2.2.2.1, .inl f28, .inl f29, .inl f30, .inl f31, .inr 1000, .inr 1000, .inl q.2.2.2.2.2.2.1] [g0, q.2.2.2.2.2.2.2.1, g2, g3, g4, g5, g6, g7, g8, g9, g10, g11, g12, q.2.2.2.2.2.2.2.2.1, q.2.2.2.2.2.2.2.2.2.1, g15, g16, g17, g18, q.2.2.2.2.2.2.2.2.2.2.1, g20, q.2.2.2.2.2.2.2.2.2.2.2.1, q.2.2.2.2.2.2.2.2.2.2.2.2.1, q.2.2.2.2.2.2.2.2.2.2.2.2.2.1, g24, q.2.2.2.2.2.2.2.2.2.2.2.2.2.2.1, q.2.2.2.2.2.2.2.2.2.2.2.2.2.2.2]) → good 167 [.inr 0, .inl x1, .inl x2, .inr 1000, .inl x4, .inl x5, .inl x6] [] [.inr 1, .inl f1, .inl f2, .inl f3, .inl f4, .inl f5, .inl f6, .inl f7, .inl f8, .inl f9, .inl f10, .inl f11, .inl f12, .inl f13, .inl f14, .inl f15, .inl f16, .inr 20, .inr 7, .inr 20, .inl f20, .inl f21, .inl f22, .inl f23, .inl f24, .inl f25, .inl f26, .inl f27, .inl f28, .inl f29, .inl f30, .inl f31, .inr 1000, .inr 1000, .inl f34] [g0, g1, g2, g3, g4, g5, g6, g7, g8, g9, g10, g11, g12, g13, g14, g15, g16, g17, g18, g19, g20, g21, g22, g23, g24, g25, g26] := by
    intro n
    induction n with
    | zero => intro x1 x2 x4 x5 x6 f2 f4 f6 f8 f10 f12 f14 f16 f20 f21 f22 f23 f25 f27 f34 g1 g4 g6 g8 g10 g12 g13 g14 g19 g21 g22 g23 g25 g26 q h; exact absurd (show none = some q from h) (fun h => by cases h)
    | succ n ih =>
      intro x1 x2 x4 x5 x6 f2 f4 f6 f8 f10 f12 f14 f16 f20 f21 f22 f23 f25 f27 f34 g1 g4 g6 g8 g10 g12 g13 g14 g19 g21 g22 g23 g25 g26 q h hK
      replace h : zf_X_log_l2_b x5 f4 f6 f8 f10 f12 f14 f24 f26 f28 f29 f30 f31 g4 g6 g8 g15 g16 g17 g18 g20 g24 (zf_X_log_l2 x5 f4 f6 f8 f10 f12 f14 f24 f26 f28 f29 f30 f31 g4 g6 g8 g15 g16 g17 g18 g20 g24 n) x6 f20 f21 f22 f23 f25 f27 f34 g1 g13 g14 g19 g21 g22 g23 g25 g26 = some q := h
      unfold zf_X_log_l2_b at h
      refine zv_ild hB zd182_167 rfl rfl ?_
      refine zv_con hB zd182_169 rfl ?_
      refine zv_cge hB zd182_172 rfl (fun hc25 => ?_) (fun hc25 => ?_)
      · rw [if_neg (Int.not_lt.mpr hc25)] at h
        have hq := Option.some.inj h
        subst hq
        refine zv_wk hB (L' := [.inr 0, .inl x1, .inl x2, .inr 1000, .inl x4, .inr 1000, .inr 1000]) (F' := [.inr 1, .inl f1, .inl f2, .inl f3, .inl f4, .inl f5, .inl f6, .inl f7, .inl f8, .inl f9, .inl f10, .inl f11, .inl f12, .inl f13, .inl f14, .inl f15, .inl f16, .inr 20, .inr 7, .inr 20, .inl f20, .inl f21, .inl f22, .inl f23, .inl f24, .inl f25, .inl f26, .inl f27, .inl f28, .inl f29, .inl f30, .inl f31, .inr 1000, .inr 1000, .inl f34]) ⟨fun _ => rfl, fun _ => rfl, fun _ => rfl, fun (h : zv_is (.inr 1000)) => (Nat.lt_irrefl 1000 h).elim, fun _ => rfl, fun (h : zv_is (.inr 1000)) => (Nat.lt_irrefl 1000 h).elim, fun (h : zv_is (.inr 1000)) => (Nat.lt_irrefl 1000 h).elim, trivial⟩ ⟨fun _ => rfl, fun _ => rfl, fun _ => rfl, fun _ => rfl, fun _ => rfl, fun _ => rfl, fun _ => rfl, fun _ => rfl, fun _ => rfl, fun _ => rfl, fun _ => rfl, fun _ => rfl, fun _ => rfl, fun _ => rfl, fun _ => rfl, fun _ => rfl, fun _ => rfl, fun _ => rfl, fun _ => rfl, fun _ => rfl, fun _ => rfl, fun _ => rfl, fun _ => rfl, fun _ => rfl, fun _ => rfl, fun _ => rfl, fun _ => rfl, fun _ => rfl, fun _ => rfl, fun _ => rfl, fun _ => rfl, fun _ => rfl, fun (h : zv_is (.inr 1000)) => (Nat.lt_irrefl 1000 h).elim, fun (h : zv_is (.inr 1000)) => (Nat.lt_irrefl 1000 h).elim, fun _ => rfl, trivial⟩ ?_
        exact hK
      · rw [if_pos hc25] at h
        refine zv_ald hB zd182_175 rfl rfl rfl ?_
        refine zv_getr hB zd182_176 rfl ?_
        refine zv_ild hB zd182_179 rfl rfl ?_
        obtain ⟨c26, h⟩ := zi_if h
        refine zv_iald hB zd182_181 rfl rfl (zi_ix_ok c26).1 (zi_ix_ok c26).2 (fun _ _ => ?_)
        refine zv_con hB zd182_182 rfl ?_
        refine zv_ceq hB zd182_183 rfl (fun hc27 => ?_) (fun hc27 => ?_)
        · rw [if_pos hc27] at h
          refine zv_iincw hB zd182_210 rfl rfl ?_
          refine zv_goto hB zd182_213 rfl ?_
          exact ih _ _ _ _ _ _ _ _ _ _ _ _ _ _ _ _ _ _ _ _ _ _ _ _ _ _ _ _ _ _ _ _ _ _ q h hK
        · rw [if_neg hc27] at h
          refine zv_ald hB zd182_186 rfl rfl rfl ?_
          refine zv_ald hB zd182_187 rfl rfl rfl ?_
          refine zv_getr hB zd182_188 rfl ?_
          refine zv_ild hB zd182_191 rfl rfl ?_
          refine zv_iald hB zd182_193 rfl rfl (zi_ix_ok c26).1 (zi_ix_ok c26).2 (fun _ _ => ?_)
          obtain ⟨r28, hr28, h⟩ := zi_bind h
          refine zv_cv hB (zv_emq (va2 := [.inr 0, .inl (g1 x6)]) (F := [.inr 1, .inl f1, .inl f2, .inl f3, .inl f4, .inl f5, .inl f6, .inl f7, .inl f8, .inl f9, .inl f10, .inl f11, .inl f12, .inl f13, .inl f14, .inl f15, .inl f16, .inr 20, .inr 7, .inr 20, .inl f20, .inl f21, .inl f22, .inl f23, .inl f24, .inl f25, .inl f26, .inl f27, .inl f28, .inl f29, .inl f30, .inl f31, .inr 1000, .inr 1000, .inl f34]) (F' := [.inr 1, .inl f1, .inl f2, .inl f3, .inl f4, .inl f5, .inl f6, .inl f7, .inl f8, .inl f9, .inl f10, .inl f11, .inl f12, .inl f13, .inl f14, .inl f15, .inl f16, .inr 20, .inr 7, .inr 20, .inl r28.2.2.2.2.1, .inl r28.2.1, .inl r28.2.2.1, .inl r28.2.2.2.1, .inl f24, .inl r28.2.2.2.2.2.1, .inl f26, .inl r28.2.2.2.2.2.2.1, .inl f28, .inl f29, .inl f30, .inl f31, .inr 1000, .inr 1000, .inl r28.2.2.2.2.2.2.2.1]) (G := [g0, g1, g2, g3, g4, g5, g6, g7, g8, g9, g10, g11, g12, g13, g14, g15, g16, g17, g18, g19, g20, g21, g22, g23, g24, g25, g26]) (G' := [g0, g1, g2, g3, g4, g5, g6, g7, g8, g9, g10, g11, g12, r28.2.2.2.2.2.2.2.2.2.2.2.1, r28.2.2.2.2.2.2.2.2.1, g15, g16, g17, g18, r28.2.2.2.2.2.2.2.2.2.1, g20, r28.2.2.2.2.2.2.2.2.2.2.1, r28.2.2.2.2.2.2.2.2.2.2.2.2.1, r28.2.2.2.2.2.2.2.2.2.2.2.2.2.1, g24, r28.2.2.2.2.2.2.2.2.2.2.2.2.2.2.1, r28.2.2.2.2.2.2.2.2.2.2.2.2.2.2.2]) (ρ := [0, 19, 20, 22, 7, 10, 12, 14, 23, 24, 25, 26, 27, 28, 1, 29, 21, 30, 31, 32, 33, 34, 35]) (φ := [19, 18, 21, 22, 6, 8, 23, 4, 12, 14, 10, 24, 20, 25, 26, 27, 28, 0, 29, 30, 31, 32, 33, 34]) (ψ := [14, 4, 6, 8, 15, 16, 17, 18, 19, 20, 21, 13, 22, 23, 24, 25, 26]) [some 17, none, none, none, some 7, none, some 4, none, some 5, none, some 10, none, some 8, none, some 9, none, none, none, some 1, some 0, some 12, some 2, some 3, some 6, some 11, some 13, some 14, some 15, some 16, some 18, some 19, some 20, some 21, some 22, some 23] [none, none, none, none, some 1, none, some 2, none, some 3, none, none, none, none, some 11, some 0, some 4, some 5, some 6, some 7, some 8, some 9, some 10, some 12, some 13, some 14, some 15, some 16] zyw_X_canBeTold zyw_X_log zye_X_log (by decide +kernel) (zt_X_canBeTold hr28) ⟨⟨_, rfl, fun _ => rfl⟩, ⟨_, rfl, fun _ => rfl⟩, ⟨_, rfl, fun _ => rfl⟩, ⟨_, rfl, fun _ => rfl⟩, ⟨_, rfl, fun _ => rfl⟩, ⟨_, rfl, fun _ => rfl⟩, ⟨_, rfl, fun _ => rfl⟩, ⟨_, rfl, fun _ => rfl⟩, ⟨_, rfl, fun _ => rfl⟩, ⟨_, rfl, fun _ => rfl⟩, ⟨_, rfl, fun _ => rfl⟩, ⟨_, rfl, fun _ => rfl⟩, ⟨_, rfl, fun _ => rfl⟩, ⟨_, rfl, fun _ => rfl⟩, ⟨_, rfl, fun _ => rfl⟩, ⟨_, rfl, fun _ => rfl⟩, ⟨_, rfl, fun _ => rfl⟩, ⟨_, rfl, fun _ => rfl⟩, ⟨_, rfl, fun _ => rfl⟩, ⟨_, rfl, fun _ => rfl⟩, ⟨_, rfl, fun _ => rfl⟩, ⟨_, rfl, fun (h : zv_is (.inr 1000)) => (Nat.lt_irrefl 1000 h).elim⟩, ⟨_, rfl, fun (h : zv_is (.inr 1000)) => (Nat.lt_irrefl 1000 h).elim⟩, ⟨_, rfl, fun _ => rfl⟩, trivial⟩ ⟨rfl, rfl, rfl, rfl, rfl, rfl, rfl, rfl, rfl, rfl, rfl, rfl, rfl, rfl, rfl, rfl, rfl, trivial⟩ rfl rfl rfl rfl rfl rfl rfl) zd182_194 zxt123 rfl (by decide) (by decide) rfl ?_
          refine zv_ild hB zd182_197 rfl rfl ?_
          refine zv_ceq hB zd182_199 rfl (fun hc29 => ?_) (fun hc29 => ?_)
          · rw [if_pos hc29] at h
            refine zv_iincw hB zd182_210 rfl rfl ?_
            refine zv_goto hB zd182_213 rfl ?_
            exact ih _ _ _ _ _ _ _ _ _ _ _ _ _ _ _ _ _ _ _ _ _ _ _ _ _ _ _ _ _ _ _ _ _ _ q h hK
          · rw [if_neg hc29] at h
            refine zv_ald hB zd182_202 rfl rfl rfl ?_
            refine zv_getr hB zd182_203 rfl ?_
            refine zv_ild hB zd182_206 rfl rfl ?_
            refine zv_con hB zd182_208 rfl ?_
            refine zv_iast hB zd182_209 rfl rfl (zi_ix_ok c26).1 (zi_ix_ok c26).2 ?_
            refine zv_iincw hB zd182_210 rfl rfl ?_
            refine zv_goto hB zd182_213 rfl ?_
            exact ih _ _ _ _ _ _ _ _ _ _ _ _ _ _ _ _ _ _ _ _ _ _ _ _ _ _ _ _ _ _ _ _ _ _ q h hK
  have l1 : ∀ (n : Nat) (x1 : Int) (x2 : Int) (x4 : Int) (f2 : Int) (f4 : Int) (f6 : Int) (f8 : Int) (f10 : Int) (f12 : Int) (f14 : Int) (f16 : Int) (f20 : Int) (f21 : Int) (f22 : Int) (f23 : Int) (f25 : Int) (f27 : Int) (f34 : Int) (g1 : (Int → Int)) (g4 : (Int → Int)) (g6 : (Int → Int)) (g8 : (Int → Int)) (g10 : (Int → Int)) (g12 : (Int → Int)) (g13 : (Int → Int)) (g14 : (Int → Int)) (g19 : (Int → Int)) (g21 : (Int → Int)) (g22 : (Int → Int)) (g23 : (Int → Int)) (g25 : (Int → Int)) (g26 : (Int → Int)) (q : Int × Int × Int × Int × Int × Int × Int × Int × Int × (Int → Int) × (Int → Int) × (Int → Int) × (Int → Int) × (Int → Int) × (Int → Int) × (Int → Int) × (Int → Int) × (Int → Int) × (Int → Int) × (Int → Int)), zf_X_log_l1 x1 f4 f10 f12 f14 f24 f26 f28 f29 f30 f31 g0 g2 g8 g10 g12 g15 g16 g17 g18 g20 g24 n x4 f6 f8 f20 f21 f22 f23 f25 f27 f34 g1 g4 g6 g13 g14 g19 g21 g22 g23 g25 g26 = some q → (good 254 [.inr 0, .inr 1000, .inl x2, .inr 1000, .inr 1000, .inr 1000, .inr 1000] [] [.inr 1, .inl f1, .inl f2, .inl f3, .inl f4, .inl f5, .inl q.1, .inl f7, .inl q.2.1, .inl f9, .inl f10, .inl f11, .inl f12, .inl f13, .inl f14, .inl f15, .inl f16, .inr 20, .inr 1000, .inr 1000, .inl q.2.2.1, .inl q.2.2.2.1, .inl q.2.2.2.2.1, .inl q.2.2.2.2.2.1, .inl f24, .inl q.2.2.2.2.2.2.1, .inl f26, .inl q.2.2.2.2.2.2.2.1, .inl f28, .inl f29, .inl f30, .inl f31, .inr 1000, .inr 1000, .inl q.2.2.2.2.2.2.2.2.1] [g0, q.2.2.2.2.2.2.2.2.2.1, g2, g3, q.2.2.2.2.2.2.2.2.2.2.1, g5, q.2.2.2.2.2.2.2.2.2.2.2.1, g7, g8, g9, g10, g11, g12, q.2.2.2.2.2.2.2.2.2.2.2.2.1, q.2.2.2.2.2.2.2.2.2.2.2.2.2.1, g15, g16, g17, g18, q.2.2.2.2.2.2.2.2.2.2.2.2.2.2.1, g20, q.2.2.2.2.2.2.2.2.2.2.2.2.2.2.2.1, q.2.2.2.2.2.2.2.2.2.2.2.2.2.2.2.2.1, q.2.2.2.2.2.2.2.2.2.2.2.2.2.2.2.2.2.1, g24, q.2.2.2.2.2.2.2.2.2.2.2.2.2.2.2.2.2.2.1, q.2.2.2.2.2.2.2.2.2.2.2.2.2.2.2.2.2.2.2]) → good 121 [.inr 0, .inl x1, .inl x2, .inr 1000, .inl x4, .inr 1000, .inr 1000] [] [.inr 1, .inl f1, .inl f2, .inl f3, .inl f4, .inl f5, .inl f6, .inl f7, .inl f8, .inl f9, .inl f10, .inl f11, .inl f12, .inl f13, .inl f14, .inl f15, .inl f16, .inr 20, .inr 1000, .inr 1000, .inl f20, .inl f21, .inl f22, .inl f23, .inl f24, .inl f25, .inl f26, .inl f27, .inl f28, .inl f29, .inl f30, .inl f31, .inr 1000, .inr 1000, .inl f34] [g0, g1, g2, g3, g4, g5, g6, g7, g8, g9, g10, g11, g12, g13, g14, g15, g16, g17, g18, g19, g20, g21, g22, g23, g24, g25, g26] := by
    intro n
    induction n with
    | zero => intro x1 x2 x4 f2 f4 f6 f8 f10 f12 f14 f16 f20 f21 f22 f23 f25 f27 f34 g1 g4 g6 g8 g10 g12 g13 g14 g19 g21 g22 g23 g25 g26 q h; exact absurd (show none = some q from h) (fun h => by cases h)
    | succ n ih =>
      intro x1 x2 x4 f2 f4 f6 f8 f10 f12 f14 f16 f20 f21 f22 f23 f25 f27 f34 g1 g4 g6 g8 g10 g12 g13 g14 g19 g21 g22 g23 g25 g26 q h hK
      replace h : zf_X_log_l1_b x1 f4 f10 f12 f14 f24 f26 f28 f29 f30 f31 g0 g2 g8 g10 g12 g15 g16 g17 g18 g20 g24 (zf_X_log_l1 x1 f4 f10 f12 f14 f24 f26 f28 f29 f30 f31 g0 g2 g8 g10 g12 g15 g16 g17 g18 g20 g24 n) x4 f6 f8 f20 f21 f22 f23 f25 f27 f34 g1 g4 g6 g13 g14 g19 g21 g22 g23 g25 g26 = some q := h
      unfold zf_X_log_l1_b at h
      refine zv_ild hB zd182_121 rfl rfl ?_
      refine zv_ild hB zd182_123 rfl rfl ?_
      refine zv_cge hB zd182_124 rfl (fun hc21 => ?_) (fun hc21 => ?_)
      · rw [if_neg (Int.not_lt.mpr hc21)] at h
        have hq := Option.some.inj h
        subst hq
        refine zv_wk hB (L' := [.inr 0, .inr 1000, .inl x2, .inr 1000, .inr 1000, .inr 1000, .inr 1000]) (F' := [.inr 1, .inl f1, .inl f2, .inl f3, .inl f4, .inl f5, .inl f6, .inl f7, .inl f8, .inl f9, .inl f10, .inl f11, .inl f12, .inl f13, .inl f14, .inl f15, .inl f16, .inr 20, .inr 1000, .inr 1000, .inl f20, .inl f21, .inl f22, .inl f23, .inl f24, .inl f25, .inl f26, .inl f27, .inl f28, .inl f29, .inl f30, .inl f31, .inr 1000, .inr 1000, .inl f34]) ⟨fun _ => rfl, fun (h : zv_is (.inr 1000)) => (Nat.lt_irrefl 1000 h).elim, fun _ => rfl, fun (h : zv_is (.inr 1000)) => (Nat.lt_irrefl 1000 h).elim, fun (h : zv_is (.inr 1000)) => (Nat.lt_irrefl 1000 h).elim, fun (h : zv_is (.inr 1000)) => (Nat.lt_irrefl 1000 h).elim, fun (h : zv_is (.inr 1000)) => (Nat.lt_irrefl 1000 h).elim, trivial⟩ ⟨fun _ => rfl, fun _ => rfl, fun _ => rfl, fun _ => rfl, fun _ => rfl, fun _ => rfl, fun _ => rfl, fun _ => rfl, fun _ => rfl, fun _ => rfl, fun _ => rfl, fun _ => rfl, fun _ => rfl, fun _ => rfl, fun _ => rfl, fun _ => rfl, fun _ => rfl, fun _ => rfl, fun (h : zv_is (.inr 1000)) => (Nat.lt_irrefl 1000 h).elim, fun (h : zv_is (.inr 1000)) => (Nat.lt_irrefl 1000 h).elim, fun _ => rfl, fun _ => rfl, fun _ => rfl, fun _ => rfl, fun _ => rfl, fun _ => rfl, fun _ => rfl, fun _ => rfl, fun _ => rfl, fun _ => rfl, fun _ => rfl, fun _ => rfl, fun (h : zv_is (.inr 1000)) => (Nat.lt_irrefl 1000 h).elim, fun (h : zv_is (.inr 1000)) => (Nat.lt_irrefl 1000 h).elim, fun _ => rfl, trivial⟩ ?_
        exact hK
      · rw [if_pos hc21] at h
        refine zv_ald hB zd182_127 rfl rfl rfl ?_
        refine zv_getr hB zd182_128 rfl ?_
        refine zv_ald hB zd182_131 rfl rfl rfl ?_
        refine zv_getr hB zd182_132 rfl ?_
        refine zv_ald hB zd182_135 rfl rfl rfl ?_
        refine zv_getq hB zd182_136 rfl rfl rfl ?_
        obtain ⟨r22, hr22, h⟩ := zi_bind h
        refine zv_cv hB (zv_emq (va2 := [.inr 19, .inr 7, .inr 20]) (F := [.inr 1, .inl f1, .inl f2, .inl f3, .inl f4, .inl f5, .inl f6, .inl f7, .inl f8, .inl f9, .inl f10, .inl f11, .inl f12, .inl f13, .inl f14, .inl f15, .inl f16, .inr 20, .inr 1000, .inr 1000, .inl f20, .inl f21, .inl f22, .inl f23, .inl f24, .inl f25, .inl f26, .inl f27, .inl f28, .inl f29, .inl f30, .inl f31, .inr 1000, .inr 1000, .inl f34]) (F' := [.inr 1, .inl f1, .inl f2, .inl f3, .inl f4, .inl f5, .inl f6, .inl f7, .inl f8, .inl f9, .inl f10, .inl f11, .inl f12, .inl f13, .inl f14, .inl f15, .inl f16, .inr 20, .inr 7, .inr 20, .inl r22.1, .inl f21, .inl f22, .inl f23, .inl f24, .inl f25, .inl f26, .inl f27, .inl f28, .inl f29, .inl f30, .inl f31, .inr 1000, .inr 1000, .inl f34]) (G := [g0, g1, g2, g3, g4, g5, g6, g7, g8, g9, g10, g11, g12, g13, g14, g15, g16, g17, g18, g19, g20, g21, g22, g23, g24, g25, g26]) (G' := [g0, g1, g2, g3, g4, g5, g6, g7, g8, g9, g10, g11, g12, r22.2, g14, g15, g16, g17, g18, g19, g20, g21, g22, g23, g24, g25, g26]) (ρ := [19, 7, 20, 21]) (φ := [18, 19, 20]) (ψ := [13]) [none, none, none, none, none, none, none, none, none, none, none, none, none, none, none, none, none, none, some 0, some 1, some 2, none, none, none, none, none, none, none, none, none, none, none, none, none, none] [none, none, none, none, none, none, none, none, none, none, none, none, none, some 0, none, none, none, none, none, none, none, none, none, none, none, none, none] zyw_View_open zyw_X_log zye_X_log (by decide +kernel) (zt_View_open hr22) ⟨⟨_, rfl, fun (h : zv_is (.inr 1000)) => (Nat.lt_irrefl 1000 h).elim⟩, ⟨_, rfl, fun (h : zv_is (.inr 1000)) => (Nat.lt_irrefl 1000 h).elim⟩, ⟨_, rfl, fun _ => rfl⟩, trivial⟩ ⟨rfl, trivial⟩ rfl rfl rfl rfl rfl rfl rfl) zd182_139 zxt84 rfl (by decide) (by decide) rfl ?_
        refine zv_ald hB zd182_142 rfl rfl rfl ?_
        refine zv_getr hB zd182_143 rfl ?_
        refine zv_con hB zd182_146 rfl ?_
        refine zv_ild hB zd182_147 rfl rfl ?_
        refine zv_mulw hB zd182_149 ?_
        obtain ⟨r23, hr23, h⟩ := zi_bind h
        refine zv_cv hB (zv_emq (va2 := [.inr 2, .inl (zi_w (2 * x4))]) (F := [.inr 1, .inl f1, .inl f2, .inl f3, .inl f4, .inl f5, .inl f6, .inl f7, .inl f8, .inl f9, .inl f10, .inl f11, .inl f12, .inl f13, .inl f14, .inl f15, .inl f16, .inr 20, .inr 7, .inr 20, .inl r22.1, .inl f21, .inl f22, .inl f23, .inl f24, .inl f25, .inl f26, .inl f27, .inl f28, .inl f29, .inl f30, .inl f31, .inr 1000, .inr 1000, .inl f34]) (F' := [.inr 1, .inl f1, .inl f2, .inl f3, .inl f4, .inl f5, .inl f6, .inl f7, .inl f8, .inl f9, .inl f10, .inl f11, .inl f12, .inl f13, .inl f14, .inl f15, .inl f16, .inr 20, .inr 7, .inr 20, .inl r22.1, .inl f21, .inl f22, .inl f23, .inl f24, .inl f25, .inl f26, .inl f27, .inl f28, .inl f29, .inl f30, .inl f31, .inr 1000, .inr 1000, .inl f34]) (G := [g0, g1, g2, g3, g4, g5, g6, g7, g8, g9, g10, g11, g12, r22.2, g14, g15, g16, g17, g18, g19, g20, g21, g22, g23, g24, g25, g26]) (G' := [g0, g1, g2, g3, g4, g5, g6, g7, g8, g9, g10, g11, g12, r22.2, g14, g15, g16, g17, g18, g19, g20, g21, g22, g23, g24, g25, g26]) (ρ := [2, 3]) (φ := []) (ψ := [0]) [none, none, none, none, none, none, none, none, none, none, none, none, none, none, none, none, none, none, none, none, none, none, none, none, none, none, none, none, none, none, none, none, none, none, none] [some 0, none, none, none, none, none, none, none, none, none, none, none, none, none, none, none, none, none, none, none, none, none, none, none, none, none, none] zyw_Tape_byteAt zyw_X_log zye_X_log (by decide +kernel) (zt_Tape_byteAt hr23) trivial ⟨rfl, trivial⟩ rfl rfl rfl rfl rfl rfl rfl) zd182_150 zxt138 rfl (by decide) (by decide) rfl ?_
        refine zv_con hB zd182_153 rfl ?_
        refine zv_cne hB zd182_154 rfl (fun hc24 => ?_) (fun hc24 => ?_)
        · rw [if_neg hc24] at h
          refine zv_con hB zd182_161 rfl ?_
          refine zv_ist hB zd182_162 rfl rfl rfl ?_
          refine zv_con hB zd182_164 rfl ?_
          refine zv_ist hB zd182_165 rfl rfl rfl ?_
          obtain ⟨q30, hq30, h⟩ := zi_bind h
          refine l2 _ _ _ _ _ _ _ _ _ _ _ _ _ _ _ _ _ _ _ _ _ _ _ _ _ _ _ _ _ _ _ _ _ _ _ q30 hq30 ?_
          show good 216 [.inr 0, .inl x1, .inl x2, .inr 1000, .inl x4, .inr 1000, .inr 1000] [] [.inr 1, .inl f1, .inl f2, .inl f3, .inl f4, .inl f5, .inl f6, .inl f7, .inl f8, .inl f9, .inl f10, .inl f11, .inl f12, .inl f13, .inl f14, .inl f15, .inl f16, .inr 20, .inr 7, .inr 20, .inl q30.1, .inl q30.2.1, .inl q30.2.2.1, .inl q30.2.2.2.1, .inl f24, .inl q30.2.2.2.2.1, .inl f26, .inl q30.2.2.2.2.2.1, .inl f28, .inl f29, .inl f30, .inl f31, .inr 1000, .inr 1000, .inl q30.2.2.2.2.2.2.1] [g0, q30.2.2.2.2.2.2.2.1, g2, g3, g4, g5, g6, g7, g8, g9, g10, g11, g12, q30.2.2.2.2.2.2.2.2.1, q30.2.2.2.2.2.2.2.2.2.1, g15, g16, g17, g18, q30.2.2.2.2.2.2.2.2.2.2.1, g20, q30.2.2.2.2.2.2.2.2.2.2.2.1, q30.2.2.2.2.2.2.2.2.2.2.2.2.1, q30.2.2.2.2.2.2.2.2.2.2.2.2.2.1, g24, q30.2.2.2.2.2.2.2.2.2.2.2.2.2.2.1, q30.2.2.2.2.2.2.2.2.2.2.2.2.2.2.2]
          refine zv_ild hB zd182_216 rfl rfl ?_
          refine zv_ild hB zd182_218 rfl rfl ?_
          refine zv_con hB zd182_219 rfl ?_
          refine zv_subw hB zd182_220 ?_
          refine zv_cge hB zd182_221 rfl (fun hc31 => ?_) (fun hc31 => ?_)
          · rw [if_neg (Int.not_lt.mpr hc31)] at h
            refine zv_ald hB zd182_241 rfl rfl rfl ?_
            refine zv_getr hB zd182_242 rfl ?_
            obtain ⟨r32, hr32, h⟩ := zi_bind h
            refine zv_cv hB (zv_emq (va2 := [.inr 7]) (F := [.inr 1, .inl f1, .inl f2, .inl f3, .inl f4, .inl f5, .inl f6, .inl f7, .inl f8, .inl f9, .inl f10, .inl f11, .inl f12, .inl f13, .inl f14, .inl f15, .inl f16, .inr 20, .inr 7, .inr 20, .inl q30.1, .inl q30.2.1, .inl q30.2.2.1, .inl q30.2.2.2.1, .inl f24, .inl q30.2.2.2.2.1, .inl f26, .inl q30.2.2.2.2.2.1, .inl f28, .inl f29, .inl f30, .inl f31, .inr 1000, .inr 1000, .inl q30.2.2.2.2.2.2.1]) (F' := [.inr 1, .inl f1, .inl f2, .inl f3, .inl f4, .inl f5, .inl r32.1, .inl f7, .inl r32.2.1, .inl f9, .inl f10, .inl f11, .inl f12, .inl f13, .inl f14, .inl f15, .inl f16, .inr 20, .inr 7, .inr 20, .inl q30.1, .inl q30.2.1, .inl q30.2.2.1, .inl q30.2.2.2.1, .inl f24, .inl q30.2.2.2.2.1, .inl f26, .inl q30.2.2.2.2.2.1, .inl f28, .inl f29, .inl f30, .inl f31, .inr 1000, .inr 1000, .inl q30.2.2.2.2.2.2.1]) (G := [g0, q30.2.2.2.2.2.2.2.1, g2, g3, g4, g5, g6, g7, g8, g9, g10, g11, g12, q30.2.2.2.2.2.2.2.2.1, q30.2.2.2.2.2.2.2.2.2.1, g15, g16, g17, g18, q30.2.2.2.2.2.2.2.2.2.2.1, g20, q30.2.2.2.2.2.2.2.2.2.2.2.1, q30.2.2.2.2.2.2.2.2.2.2.2.2.1, q30.2.2.2.2.2.2.2.2.2.2.2.2.2.1, g24, q30.2.2.2.2.2.2.2.2.2.2.2.2.2.2.1, q30.2.2.2.2.2.2.2.2.2.2.2.2.2.2.2]) (G' := [g0, q30.2.2.2.2.2.2.2.1, g2, g3, r32.2.2.1, g5, r32.2.2.2, g7, g8, g9, g10, g11, g12, q30.2.2.2.2.2.2.2.2.1, q30.2.2.2.2.2.2.2.2.2.1, g15, g16, g17, g18, q30.2.2.2.2.2.2.2.2.2.2.1, g20, q30.2.2.2.2.2.2.2.2.2.2.2.1, q30.2.2.2.2.2.2.2.2.2.2.2.2.1, q30.2.2.2.2.2.2.2.2.2.2.2.2.2.1, g24, q30.2.2.2.2.2.2.2.2.2.2.2.2.2.2.1, q30.2.2.2.2.2.2.2.2.2.2.2.2.2.2.2]) (ρ := [7, 10, 16, 12, 18]) (φ := [6, 8]) (ψ := [4, 10, 6, 12]) [none, none, none, none, none, none, some 0, none, some 1, none, none, none, none, none, none, none, none, none, none, none, none, none, none, none, none, none, none, none, none, none, none, none, none, none, none] [none, none, none, none, some 0, none, some 2, none, none, none, some 1, none, some 3, none, none, none, none, none, none, none, none, none, none, none, none, none, none] zyw_Sky_passHour zyw_X_log zye_X_log (by decide +kernel) (zt_Sky_passHour hr32) ⟨⟨_, rfl, fun _ => rfl⟩, ⟨_, rfl, fun _ => rfl⟩, trivial⟩ ⟨rfl, rfl, rfl, rfl, trivial⟩ rfl rfl rfl rfl rfl rfl rfl) zd182_245 zxt155 rfl (by decide) (by decide) rfl ?_
            refine zv_iincw hB zd182_248 rfl rfl ?_
            refine zv_goto hB zd182_251 rfl ?_
            refine zv_wk hB (L' := [.inr 0, .inl x1, .inl x2, .inr 1000, .inl (zi_w (x4 + 1)), .inr 1000, .inr 1000]) (F' := [.inr 1, .inl f1, .inl f2, .inl f3, .inl f4, .inl f5, .inl r32.1, .inl f7, .inl r32.2.1, .inl f9, .inl f10, .inl f11, .inl f12, .inl f13, .inl f14, .inl f15, .inl f16, .inr 20, .inr 1000, .inr 1000, .inl q30.1, .inl q30.2.1, .inl q30.2.2.1, .inl q30.2.2.2.1, .inl f24, .inl q30.2.2.2.2.1, .inl f26, .inl q30.2.2.2.2.2.1, .inl f28, .inl f29, .inl f30, .inl f31, .inr 1000, .inr 1000, .inl q30.2.2.2.2.2.2.1]) ⟨fun _ => rfl, fun _ => rfl, fun _ => rfl, fun (h : zv_is (.inr 1000)) => (Nat.lt_irrefl 1000 h).elim, fun _ => rfl, fun (h : zv_is (.inr 1000)) => (Nat.lt_irrefl 1000 h).elim, fun (h : zv_is (.inr 1000)) => (Nat.lt_irrefl 1000 h).elim, trivial⟩ ⟨fun _ => rfl, fun _ => rfl, fun _ => rfl, fun _ => rfl, fun _ => rfl, fun _ => rfl, fun _ => rfl, fun _ => rfl, fun _ => rfl, fun _ => rfl, fun _ => rfl, fun _ => rfl, fun _ => rfl, fun _ => rfl, fun _ => rfl, fun _ => rfl, fun _ => rfl, fun _ => rfl, fun (h : zv_is (.inr 1000)) => (Nat.lt_irrefl 1000 h).elim, fun (h : zv_is (.inr 1000)) => (Nat.lt_irrefl 1000 h).elim, fun _ => rfl, fun _ => rfl, fun _ => rfl, fun _ => rfl, fun _ => rfl, fun _ => rfl, fun _ => rfl, fun _ => rfl, fun _ => rfl, fun _ => rfl, fun _ => rfl, fun _ => rfl, fun (h : zv_is (.inr 1000)) => (Nat.lt_irrefl 1000 h).elim, fun (h : zv_is (.inr 1000)) => (Nat.lt_irrefl 1000 h).elim, fun _ => rfl, trivial⟩ ?_
            exact ih _ _ _ _ _ _ _ _ _ _ _ _ _ _ _ _ _ _ _ _ _ _ _ _ _ _ _ _ _ _ _ _ q h hK
          · rw [if_pos hc31] at h
            refine zv_ald hB zd182_224 rfl rfl rfl ?_
            refine zv_ald hB zd182_225 rfl rfl rfl ?_
            refine zv_getr hB zd182_226 rfl ?_
            refine zv_con hB zd182_229 rfl ?_
            refine zv_ild hB zd182_230 rfl rfl ?_
            refine zv_mulw hB zd182_232 ?_
            refine zv_con hB zd182_233 rfl ?_
            refine zv_addw hB zd182_234 ?_
            obtain ⟨r33, hr33, h⟩ := zi_bind h
            refine zv_cv hB (zv_emq (va2 := [.inr 2, .inl (zi_w ((zi_w (2 * x4)) + 1))]) (F := [.inr 1, .inl f1, .inl f2, .inl f3, .inl f4, .inl f5, .inl f6, .inl f7, .inl f8, .inl f9, .inl f10, .inl f11, .inl f12, .inl f13, .inl f14, .inl f15, .inl f16, .inr 20, .inr 7, .inr 20, .inl q30.1, .inl q30.2.1, .inl q30.2.2.1, .inl q30.2.2.2.1, .inl f24, .inl q30.2.2.2.2.1, .inl f26, .inl q30.2.2.2.2.2.1, .inl f28, .inl f29, .inl f30, .inl f31, .inr 1000, .inr 1000, .inl q30.2.2.2.2.2.2.1]) (F' := [.inr 1, .inl f1, .inl f2, .inl f3, .inl f4, .inl f5, .inl f6, .inl f7, .inl f8, .inl f9, .inl f10, .inl f11, .inl f12, .inl f13, .inl f14, .inl f15, .inl f16, .inr 20, .inr 7, .inr 20, .inl q30.1, .inl q30.2.1, .inl q30.2.2.1, .inl q30.2.2.2.1, .inl f24, .inl q30.2.2.2.2.1, .inl f26, .inl q30.2.2.2.2.2.1, .inl f28, .inl f29, .inl f30, .inl f31, .inr 1000, .inr 1000, .inl q30.2.2.2.2.2.2.1]) (G := [g0, q30.2.2.2.2.2.2.2.1, g2, g3, g4, g5, g6, g7, g8, g9, g10, g11, g12, q30.2.2.2.2.2.2.2.2.1, q30.2.2.2.2.2.2.2.2.2.1, g15, g16, g17, g18, q30.2.2.2.2.2.2.2.2.2.2.1, g20, q30.2.2.2.2.2.2.2.2.2.2.2.1, q30.2.2.2.2.2.2.2.2.2.2.2.2.1, q30.2.2.2.2.2.2.2.2.2.2.2.2.2.1, g24, q30.2.2.2.2.2.2.2.2.2.2.2.2.2.2.1, q30.2.2.2.2.2.2.2.2.2.2.2.2.2.2.2]) (G' := [g0, q30.2.2.2.2.2.2.2.1, g2, g3, g4, g5, g6, g7, g8, g9, g10, g11, g12, q30.2.2.2.2.2.2.2.2.1, q30.2.2.2.2.2.2.2.2.2.1, g15, g16, g17, g18, q30.2.2.2.2.2.2.2.2.2.2.1, g20, q30.2.2.2.2.2.2.2.2.2.2.2.1, q30.2.2.2.2.2.2.2.2.2.2.2.2.1, q30.2.2.2.2.2.2.2.2.2.2.2.2.2.1, g24, q30.2.2.2.2.2.2.2.2.2.2.2.2.2.2.1, q30.2.2.2.2.2.2.2.2.2.2.2.2.2.2.2]) (ρ := [2, 3]) (φ := []) (ψ := [0]) [none, none, none, none, none, none, none, none, none, none, none, none, none, none, none, none, none, none, none, none, none, none, none, none, none, none, none, none, none, none, none, none, none, none, none] [some 0, none, none, none, none, none, none, none, none, none, none, none, none, none, none, none, none, none, none, none, none, none, none, none, none, none, none] zyw_Tape_byteAt zyw_X_log zye_X_log (by decide +kernel) (zt_Tape_byteAt hr33) trivial ⟨rfl, trivial⟩ rfl rfl rfl rfl rfl rfl rfl) zd182_235 zxt138 rfl (by decide) (by decide) rfl ?_
            obtain ⟨r34, hr34, h⟩ := zi_bind h
            refine zv_cv hB (zv_emq (va2 := [.inr 0, .inl r33]) (F := [.inr 1, .inl f1, .inl f2, .inl f3, .inl f4, .inl f5, .inl f6, .inl f7, .inl f8, .inl f9, .inl f10, .inl f11, .inl f12, .inl f13, .inl f14, .inl f15, .inl f16, .inr 20, .inr 7, .inr 20, .inl q30.1, .inl q30.2.1, .inl q30.2.2.1, .inl q30.2.2.2.1, .inl f24, .inl q30.2.2.2.2.1, .inl f26, .inl q30.2.2.2.2.2.1, .inl f28, .inl f29, .inl f30, .inl f31, .inr 1000, .inr 1000, .inl q30.2.2.2.2.2.2.1]) (F' := [.inr 1, .inl f1, .inl f2, .inl f3, .inl f4, .inl f5, .inl f6, .inl f7, .inl f8, .inl f9, .inl f10, .inl f11, .inl f12, .inl f13, .inl f14, .inl f15, .inl f16, .inr 20, .inr 7, .inr 20, .inl q30.1, .inl q30.2.1, .inl q30.2.2.1, .inl q30.2.2.2.1, .inl f24, .inl q30.2.2.2.2.1, .inl f26, .inl q30.2.2.2.2.2.1, .inl f28, .inl f29, .inl f30, .inl f31, .inr 1000, .inr 1000, .inl q30.2.2.2.2.2.2.1]) (G := [g0, q30.2.2.2.2.2.2.2.1, g2, g3, g4, g5, g6, g7, g8, g9, g10, g11, g12, q30.2.2.2.2.2.2.2.2.1, q30.2.2.2.2.2.2.2.2.2.1, g15, g16, g17, g18, q30.2.2.2.2.2.2.2.2.2.2.1, g20, q30.2.2.2.2.2.2.2.2.2.2.2.1, q30.2.2.2.2.2.2.2.2.2.2.2.2.1, q30.2.2.2.2.2.2.2.2.2.2.2.2.2.1, g24, q30.2.2.2.2.2.2.2.2.2.2.2.2.2.2.1, q30.2.2.2.2.2.2.2.2.2.2.2.2.2.2.2]) (G' := [g0, r34, g2, g3, g4, g5, g6, g7, g8, g9, g10, g11, g12, q30.2.2.2.2.2.2.2.2.1, q30.2.2.2.2.2.2.2.2.2.1, g15, g16, g17, g18, q30.2.2.2.2.2.2.2.2.2.2.1, g20, q30.2.2.2.2.2.2.2.2.2.2.2.1, q30.2.2.2.2.2.2.2.2.2.2.2.2.1, q30.2.2.2.2.2.2.2.2.2.2.2.2.2.1, g24, q30.2.2.2.2.2.2.2.2.2.2.2.2.2.2.1, q30.2.2.2.2.2.2.2.2.2.2.2.2.2.2.2]) (ρ := [0, 4, 5, 6]) (φ := []) (ψ := [1, 2]) [none, none, none, none, none, none, none, none, none, none, none, none, none, none, none, none, none, none, none, none, none, none, none, none, none, none, none, none, none, none, none, none, none, none, none] [none, some 0, some 1, none, none, none, none, none, none, none, none, none, none, none, none, none, none, none, none, none, none, none, none, none, none, none, none] zyw_X_moveSpots zyw_X_log zye_X_log (by decide +kernel) (zt_X_moveSpots hr34) trivial ⟨rfl, rfl, trivial⟩ rfl rfl rfl rfl rfl rfl rfl) zd182_238 zxt184 rfl (by decide) (by decide) rfl ?_
            refine zv_ald hB zd182_241 rfl rfl rfl ?_
            refine zv_getr hB zd182_242 rfl ?_
            obtain ⟨r35, hr35, h⟩ := zi_bind h
            refine zv_cv hB (zv_emq (va2 := [.inr 7]) (F := [.inr 1, .inl f1, .inl f2, .inl f3, .inl f4, .inl f5, .inl f6, .inl f7, .inl f8, .inl f9, .inl f10, .inl f11, .inl f12, .inl f13, .inl f14, .inl f15, .inl f16, .inr 20, .inr 7, .inr 20, .inl q30.1, .inl q30.2.1, .inl q30.2.2.1, .inl q30.2.2.2.1, .inl f24, .inl q30.2.2.2.2.1, .inl f26, .inl q30.2.2.2.2.2.1, .inl f28, .inl f29, .inl f30, .inl f31, .inr 1000, .inr 1000, .inl q30.2.2.2.2.2.2.1]) (F' := [.inr 1, .inl f1, .inl f2, .inl f3, .inl f4, .inl f5, .inl r35.1, .inl f7, .inl r35.2.1, .inl f9, .inl f10, .inl f11, .inl f12, .inl f13, .inl f14, .inl f15, .inl f16, .inr 20, .inr 7, .inr 20, .inl q30.1, .inl q30.2.1, .inl q30.2.2.1, .inl q30.2.2.2.1, .inl f24, .inl q30.2.2.2.2.1, .inl f26, .inl q30.2.2.2.2.2.1, .inl f28, .inl f29, .inl f30, .inl f31, .inr 1000, .inr 1000, .inl q30.2.2.2.2.2.2.1]) (G := [g0, r34, g2, g3, g4, g5, g6, g7, g8, g9, g10, g11, g12, q30.2.2.2.2.2.2.2.2.1, q30.2.2.2.2.2.2.2.2.2.1, g15, g16, g17, g18, q30.2.2.2.2.2.2.2.2.2.2.1, g20, q30.2.2.2.2.2.2.2.2.2.2.2.1, q30.2.2.2.2.2.2.2.2.2.2.2.2.1, q30.2.2.2.2.2.2.2.2.2.2.2.2.2.1, g24, q30.2.2.2.2.2.2.2.2.2.2.2.2.2.2.1, q30.2.2.2.2.2.2.2.2.2.2.2.2.2.2.2]) (G' := [g0, r34, g2, g3, r35.2.2.1, g5, r35.2.2.2, g7, g8, g9, g10, g11, g12, q30.2.2.2.2.2.2.2.2.1, q30.2.2.2.2.2.2.2.2.2.1, g15, g16, g17, g18, q30.2.2.2.2.2.2.2.2.2.2.1, g20, q30.2.2.2.2.2.2.2.2.2.2.2.1, q30.2.2.2.2.2.2.2.2.2.2.2.2.1, q30.2.2.2.2.2.2.2.2.2.2.2.2.2.1, g24, q30.2.2.2.2.2.2.2.2.2.2.2.2.2.2.1, q30.2.2.2.2.2.2.2.2.2.2.2.2.2.2.2]) (ρ := [7, 10, 16, 12, 18]) (φ := [6, 8]) (ψ := [4, 10, 6, 12]) [none, none, none, none, none, none, some 0, none, some 1, none, none, none, none, none, none, none, none, none, none, none, none, none, none, none, none, none, none, none, none, none, none, none, none, none, none] [none, none, none, none, some 0, none, some 2, none, none, none, some 1, none, some 3, none, none, none, none, none, none, none, none, none, none, none, none, none, none] zyw_Sky_passHour zyw_X_log zye_X_log (by decide +kernel) (zt_Sky_passHour hr35) ⟨⟨_, rfl, fun _ => rfl⟩, ⟨_, rfl, fun _ => rfl⟩, trivial⟩ ⟨rfl, rfl, rfl, rfl, trivial⟩ rfl rfl rfl rfl rfl rfl rfl) zd182_245 zxt155 rfl (by decide) (by decide) rfl ?_
            refine zv_iincw hB zd182_248 rfl rfl ?_
            refine zv_goto hB zd182_251 rfl ?_
            refine zv_wk hB (L' := [.inr 0, .inl x1, .inl x2, .inr 1000, .inl (zi_w (x4 + 1)), .inr 1000, .inr 1000]) (F' := [.inr 1, .inl f1, .inl f2, .inl f3, .inl f4, .inl f5, .inl r35.1, .inl f7, .inl r35.2.1, .inl f9, .inl f10, .inl f11, .inl f12, .inl f13, .inl f14, .inl f15, .inl f16, .inr 20, .inr 1000, .inr 1000, .inl q30.1, .inl q30.2.1, .inl q30.2.2.1, .inl q30.2.2.2.1, .inl f24, .inl q30.2.2.2.2.1, .inl f26, .inl q30.2.2.2.2.2.1, .inl f28, .inl f29, .inl f30, .inl f31, .inr 1000, .inr 1000, .inl q30.2.2.2.2.2.2.1]) ⟨fun _ => rfl, fun _ => rfl, fun _ => rfl, fun (h : zv_is (.inr 1000)) => (Nat.lt_irrefl 1000 h).elim, fun _ => rfl, fun (h : zv_is (.inr 1000)) => (Nat.lt_irrefl 1000 h).elim, fun (h : zv_is (.inr 1000)) => (Nat.lt_irrefl 1000 h).elim, trivial⟩ ⟨fun _ => rfl, fun _ => rfl, fun _ => rfl, fun _ => rfl, fun _ => rfl, fun _ => rfl, fun _ => rfl, fun _ => rfl, fun _ => rfl, fun _ => rfl, fun _ => rfl, fun _ => rfl, fun _ => rfl, fun _ => rfl, fun _ => rfl, fun _ => rfl, fun _ => rfl, fun _ => rfl, fun (h : zv_is (.inr 1000)) => (Nat.lt_irrefl 1000 h).elim, fun (h : zv_is (.inr 1000)) => (Nat.lt_irrefl 1000 h).elim, fun _ => rfl, fun _ => rfl, fun _ => rfl, fun _ => rfl, fun _ => rfl, fun _ => rfl, fun _ => rfl, fun _ => rfl, fun _ => rfl, fun _ => rfl, fun _ => rfl, fun _ => rfl, fun (h : zv_is (.inr 1000)) => (Nat.lt_irrefl 1000 h).elim, fun (h : zv_is (.inr 1000)) => (Nat.lt_irrefl 1000 h).elim, fun _ => rfl, trivial⟩ ?_
            exact ih _ _ _ _ _ _ _ _ _ _ _ _ _ _ _ _ _ _ _ _ _ _ _ _ _ _ _ _ _ _ _ _ q h hK
        · rw [if_pos hc24] at h
          refine zv_con hB zd182_157 rfl ?_
          refine zv_goto hB zd182_158 rfl ?_
          refine zv_ist hB zd182_162 rfl rfl rfl ?_
          refine zv_con hB zd182_164 rfl ?_
          refine zv_ist hB zd182_165 rfl rfl rfl ?_
          obtain ⟨q36, hq36, h⟩ := zi_bind h
          refine l2 _ _ _ _ _ _ _ _ _ _ _ _ _ _ _ _ _ _ _ _ _ _ _ _ _ _ _ _ _ _ _ _ _ _ _ q36 hq36 ?_
          show good 216 [.inr 0, .inl x1, .inl x2, .inr 1000, .inl x4, .inr 1000, .inr 1000] [] [.inr 1, .inl f1, .inl f2, .inl f3, .inl f4, .inl f5, .inl f6, .inl f7, .inl f8, .inl f9, .inl f10, .inl f11, .inl f12, .inl f13, .inl f14, .inl f15, .inl f16, .inr 20, .inr 7, .inr 20, .inl q36.1, .inl q36.2.1, .inl q36.2.2.1, .inl q36.2.2.2.1, .inl f24, .inl q36.2.2.2.2.1, .inl f26, .inl q36.2.2.2.2.2.1, .inl f28, .inl f29, .inl f30, .inl f31, .inr 1000, .inr 1000, .inl q36.2.2.2.2.2.2.1] [g0, q36.2.2.2.2.2.2.2.1, g2, g3, g4, g5, g6, g7, g8, g9, g10, g11, g12, q36.2.2.2.2.2.2.2.2.1, q36.2.2.2.2.2.2.2.2.2.1, g15, g16, g17, g18, q36.2.2.2.2.2.2.2.2.2.2.1, g20, q36.2.2.2.2.2.2.2.2.2.2.2.1, q36.2.2.2.2.2.2.2.2.2.2.2.2.1, q36.2.2.2.2.2.2.2.2.2.2.2.2.2.1, g24, q36.2.2.2.2.2.2.2.2.2.2.2.2.2.2.1, q36.2.2.2.2.2.2.2.2.2.2.2.2.2.2.2]
          refine zv_ild hB zd182_216 rfl rfl ?_
          refine zv_ild hB zd182_218 rfl rfl ?_
          refine zv_con hB zd182_219 rfl ?_
          refine zv_subw hB zd182_220 ?_
          refine zv_cge hB zd182_221 rfl (fun hc37 => ?_) (fun hc37 => ?_)
          · rw [if_neg (Int.not_lt.mpr hc37)] at h
            refine zv_ald hB zd182_241 rfl rfl rfl ?_
            refine zv_getr hB zd182_242 rfl ?_
            obtain ⟨r38, hr38, h⟩ := zi_bind h
            refine zv_cv hB (zv_emq (va2 := [.inr 7]) (F := [.inr 1, .inl f1, .inl f2, .inl f3, .inl f4, .inl f5, .inl f6, .inl f7, .inl f8, .inl f9, .inl f10, .inl f11, .inl f12, .inl f13, .inl f14, .inl f15, .inl f16, .inr 20, .inr 7, .inr 20, .inl q36.1, .inl q36.2.1, .inl q36.2.2.1, .inl q36.2.2.2.1, .inl f24, .inl q36.2.2.2.2.1, .inl f26, .inl q36.2.2.2.2.2.1, .inl f28, .inl f29, .inl f30, .inl f31, .inr 1000, .inr 1000, .inl q36.2.2.2.2.2.2.1]) (F' := [.inr 1, .inl f1, .inl f2, .inl f3, .inl f4, .inl f5, .inl r38.1, .inl f7, .inl r38.2.1, .inl f9, .inl f10, .inl f11, .inl f12, .inl f13, .inl f14, .inl f15, .inl f16, .inr 20, .inr 7, .inr 20, .inl q36.1, .inl q36.2.1, .inl q36.2.2.1, .inl q36.2.2.2.1, .inl f24, .inl q36.2.2.2.2.1, .inl f26, .inl q36.2.2.2.2.2.1, .inl f28, .inl f29, .inl f30, .inl f31, .inr 1000, .inr 1000, .inl q36.2.2.2.2.2.2.1]) (G := [g0, q36.2.2.2.2.2.2.2.1, g2, g3, g4, g5, g6, g7, g8, g9, g10, g11, g12, q36.2.2.2.2.2.2.2.2.1, q36.2.2.2.2.2.2.2.2.2.1, g15, g16, g17, g18, q36.2.2.2.2.2.2.2.2.2.2.1, g20, q36.2.2.2.2.2.2.2.2.2.2.2.1, q36.2.2.2.2.2.2.2.2.2.2.2.2.1, q36.2.2.2.2.2.2.2.2.2.2.2.2.2.1, g24, q36.2.2.2.2.2.2.2.2.2.2.2.2.2.2.1, q36.2.2.2.2.2.2.2.2.2.2.2.2.2.2.2]) (G' := [g0, q36.2.2.2.2.2.2.2.1, g2, g3, r38.2.2.1, g5, r38.2.2.2, g7, g8, g9, g10, g11, g12, q36.2.2.2.2.2.2.2.2.1, q36.2.2.2.2.2.2.2.2.2.1, g15, g16, g17, g18, q36.2.2.2.2.2.2.2.2.2.2.1, g20, q36.2.2.2.2.2.2.2.2.2.2.2.1, q36.2.2.2.2.2.2.2.2.2.2.2.2.1, q36.2.2.2.2.2.2.2.2.2.2.2.2.2.1, g24, q36.2.2.2.2.2.2.2.2.2.2.2.2.2.2.1, q36.2.2.2.2.2.2.2.2.2.2.2.2.2.2.2]) (ρ := [7, 10, 16, 12, 18]) (φ := [6, 8]) (ψ := [4, 10, 6, 12]) [none, none, none, none, none, none, some 0, none, some 1, none, none, none, none, none, none, none, none, none, none, none, none, none, none, none, none, none, none, none, none, none, none, none, none, none, none] [none, none, none, none, some 0, none, some 2, none, none, none, some 1, none, some 3, none, none, none, none, none, none, none, none, none, none, none, none, none, none] zyw_Sky_passHour zyw_X_log zye_X_log (by decide +kernel) (zt_Sky_passHour hr38) ⟨⟨_, rfl, fun _ => rfl⟩, ⟨_, rfl, fun _ => rfl⟩, trivial⟩ ⟨rfl, rfl, rfl, rfl, trivial⟩ rfl rfl rfl rfl rfl rfl rfl) zd182_245 zxt155 rfl (by decide) (by decide) rfl ?_
            refine zv_iincw hB zd182_248 rfl rfl ?_
            refine zv_goto hB zd182_251 rfl ?_
            refine zv_wk hB (L' := [.inr 0, .inl x1, .inl x2, .inr 1000, .inl (zi_w (x4 + 1)), .inr 1000, .inr 1000]) (F' := [.inr 1, .inl f1, .inl f2, .inl f3, .inl f4, .inl f5, .inl r38.1, .inl f7, .inl r38.2.1, .inl f9, .inl f10, .inl f11, .inl f12, .inl f13, .inl f14, .inl f15, .inl f16, .inr 20, .inr 1000, .inr 1000, .inl q36.1, .inl q36.2.1, .inl q36.2.2.1, .inl q36.2.2.2.1, .inl f24, .inl q36.2.2.2.2.1, .inl f26, .inl q36.2.2.2.2.2.1, .inl f28, .inl f29, .inl f30, .inl f31, .inr 1000, .inr 1000, .inl q36.2.2.2.2.2.2.1]) ⟨fun _ => rfl, fun _ => rfl, fun _ => rfl, fun (h : zv_is (.inr 1000)) => (Nat.lt_irrefl 1000 h).elim, fun _ => rfl, fun (h : zv_is (.inr 1000)) => (Nat.lt_irrefl 1000 h).elim, fun (h : zv_is (.inr 1000)) => (Nat.lt_irrefl 1000 h).elim, trivial⟩ ⟨fun _ => rfl, fun _ => rfl, fun _ => rfl, fun _ => rfl, fun _ => rfl, fun _ => rfl, fun _ => rfl, fun _ => rfl, fun _ => rfl, fun _ => rfl, fun _ => rfl, fun _ => rfl, fun _ => rfl, fun _ => rfl, fun _ => rfl, fun _ => rfl, fun _ => rfl, fun _ => rfl, fun (h : zv_is (.inr 1000)) => (Nat.lt_irrefl 1000 h).elim, fun (h : zv_is (.inr 1000)) => (Nat.lt_irrefl 1000 h).elim, fun _ => rfl, fun _ => rfl, fun _ => rfl, fun _ => rfl, fun _ => rfl, fun _ => rfl, fun _ => rfl, fun _ => rfl, fun _ => rfl, fun _ => rfl, fun _ => rfl, fun _ => rfl, fun (h : zv_is (.inr 1000)) => (Nat.lt_irrefl 1000 h).elim, fun (h : zv_is (.inr 1000)) => (Nat.lt_irrefl 1000 h).elim, fun _ => rfl, trivial⟩ ?_
            exact ih _ _ _ _ _ _ _ _ _ _ _ _ _ _ _ _ _ _ _ _ _ _ _ _ _ _ _ _ _ _ _ _ q h hK
          · rw [if_pos hc37] at h
            refine zv_ald hB zd182_224 rfl rfl rfl ?_
            refine zv_ald hB zd182_225 rfl rfl rfl ?_
            refine zv_getr hB zd182_226 rfl ?_
            refine zv_con hB zd182_229 rfl ?_
            refine zv_ild hB zd182_230 rfl rfl ?_
            refine zv_mulw hB zd182_232 ?_
            refine zv_con hB zd182_233 rfl ?_
            refine zv_addw hB zd182_234 ?_
            obtain ⟨r39, hr39, h⟩ := zi_bind h
            refine zv_cv hB (zv_emq (va2 := [.inr 2, .inl (zi_w ((zi_w (2 * x4)) + 1))]) (F := [.inr 1, .inl f1, .inl f2, .inl f3, .inl f4, .inl f5, .inl f6, .inl f7, .inl f8, .inl f9, .inl f10, .inl f11, .inl f12, .inl f13, .inl f14, .inl f15, .inl f16, .inr 20, .inr 7, .inr 20, .inl q36.1, .inl q36.2.1, .inl q36.2.2.1, .inl q36.2.2.2.1, .inl f24, .inl q36.2.2.2.2.1, .inl f26, .inl q36.2.2.2.2.2.1, .inl f28, .inl f29, .inl f30, .inl f31, .inr 1000, .inr 1000, .inl q36.2.2.2.2.2.2.1]) (F' := [.inr 1, .inl f1, .inl f2, .inl f3, .inl f4, .inl f5, .inl f6, .inl f7, .inl f8, .inl f9, .inl f10, .inl f11, .inl f12, .inl f13, .inl f14, .inl f15, .inl f16, .inr 20, .inr 7, .inr 20, .inl q36.1, .inl q36.2.1, .inl q36.2.2.1, .inl q36.2.2.2.1, .inl f24, .inl q36.2.2.2.2.1, .inl f26, .inl q36.2.2.2.2.2.1, .inl f28, .inl f29, .inl f30, .inl f31, .inr 1000, .inr 1000, .inl q36.2.2.2.2.2.2.1]) (G := [g0, q36.2.2.2.2.2.2.2.1, g2, g3, g4, g5, g6, g7, g8, g9, g10, g11, g12, q36.2.2.2.2.2.2.2.2.1, q36.2.2.2.2.2.2.2.2.2.1, g15, g16, g17, g18, q36.2.2.2.2.2.2.2.2.2.2.1, g20, q36.2.2.2.2.2.2.2.2.2.2.2.1, q36.2.2.2.2.2.2.2.2.2.2.2.2.1, q36.2.2.2.2.2.2.2.2.2.2.2.2.2.1, g24, q36.2.2.2.2.2.2.2.2.2.2.2.2.2.2.1, q36.2.2.2.2.2.2.2.2.2.2.2.2.2.2.2]) (G' := [g0, q36.2.2.2.2.2.2.2.1, g2, g3, g4, g5, g6, g7, g8, g9, g10, g11, g12, q36.2.2.2.2.2.2.2.2.1, q36.2.2.2.2.2.2.2.2.2.1, g15, g16, g17, g18, q36.2.2.2.2.2.2.2.2.2.2.1, g20, q36.2.2.2.2.2.2.2.2.2.2.2.1, q36.2.2.2.2.2.2.2.2.2.2.2.2.1, q36.2.2.2.2.2.2.2.2.2.2.2.2.2.1, g24, q36.2.2.2.2.2.2.2.2.2.2.2.2.2.2.1, q36.2.2.2.2.2.2.2.2.2.2.2.2.2.2.2]) (ρ := [2, 3]) (φ := []) (ψ := [0]) [none, none, none, none, none, none, none, none, none, none, none, none, none, none, none, none, none, none, none, none, none, none, none, none, none, none, none, none, none, none, none, none, none, none, none] [some 0, none, none, none, none, none, none, none, none, none, none, none, none, none, none, none, none, none, none, none, none, none, none, none, none, none, none] zyw_Tape_byteAt zyw_X_log zye_X_log (by decide +kernel) (zt_Tape_byteAt hr39) trivial ⟨rfl, trivial⟩ rfl rfl rfl rfl rfl rfl rfl) zd182_235 zxt138 rfl (by decide) (by decide) rfl ?_
            obtain ⟨r40, hr40, h⟩ := zi_bind h
            refine zv_cv hB (zv_emq (va2 := [.inr 0, .inl r39]) (F := [.inr 1, .inl f1, .inl f2, .inl f3, .inl f4, .inl f5, .inl f6, .inl f7, .inl f8, .inl f9, .inl f10, .inl f11, .inl f12, .inl f13, .inl f14, .inl f15, .inl f16, .inr 20, .inr 7, .inr 20, .inl q36.1, .inl q36.2.1, .inl q36.2.2.1, .inl q36.2.2.2.1, .inl f24, .inl q36.2.2.2.2.1, .inl f26, .inl q36.2.2.2.2.2.1, .inl f28, .inl f29, .inl f30, .inl f31, .inr 1000, .inr 1000, .inl q36.2.2.2.2.2.2.1]) (F' := [.inr 1, .inl f1, .inl f2, .inl f3, .inl f4, .inl f5, .inl f6, .inl f7, .inl f8, .inl f9, .inl f10, .inl f11, .inl f12, .inl f13, .inl f14, .inl f15, .inl f16, .inr 20, .inr 7, .inr 20, .inl q36.1, .inl q36.2.1, .inl q36.2.2.1, .inl q36.2.2.2.1, .inl f24, .inl q36.2.2.2.2.1, .inl f26, .inl q36.2.2.2.2.2.1, .inl f28, .inl f29, .inl f30, .inl f31, .inr 1000, .inr 1000, .inl q36.2.2.2.2.2.2.1]) (G := [g0, q36.2.2.2.2.2.2.2.1, g2, g3, g4, g5, g6, g7, g8, g9, g10, g11, g12, q36.2.2.2.2.2.2.2.2.1, q36.2.2.2.2.2.2.2.2.2.1, g15, g16, g17, g18, q36.2.2.2.2.2.2.2.2.2.2.1, g20, q36.2.2.2.2.2.2.2.2.2.2.2.1, q36.2.2.2.2.2.2.2.2.2.2.2.2.1, q36.2.2.2.2.2.2.2.2.2.2.2.2.2.1, g24, q36.2.2.2.2.2.2.2.2.2.2.2.2.2.2.1, q36.2.2.2.2.2.2.2.2.2.2.2.2.2.2.2]) (G' := [g0, r40, g2, g3, g4, g5, g6, g7, g8, g9, g10, g11, g12, q36.2.2.2.2.2.2.2.2.1, q36.2.2.2.2.2.2.2.2.2.1, g15, g16, g17, g18, q36.2.2.2.2.2.2.2.2.2.2.1, g20, q36.2.2.2.2.2.2.2.2.2.2.2.1, q36.2.2.2.2.2.2.2.2.2.2.2.2.1, q36.2.2.2.2.2.2.2.2.2.2.2.2.2.1, g24, q36.2.2.2.2.2.2.2.2.2.2.2.2.2.2.1, q36.2.2.2.2.2.2.2.2.2.2.2.2.2.2.2]) (ρ := [0, 4, 5, 6]) (φ := []) (ψ := [1, 2]) [none, none, none, none, none, none, none, none, none, none, none, none, none, none, none, none, none, none, none, none, none, none, none, none, none, none, none, none, none, none, none, none, none, none, none] [none, some 0, some 1, none, none, none, none, none, none, none, none, none, none, none, none, none, none, none, none, none, none, none, none, none, none, none, none] zyw_X_moveSpots zyw_X_log zye_X_log (by decide +kernel) (zt_X_moveSpots hr40) trivial ⟨rfl, rfl, trivial⟩ rfl rfl rfl rfl rfl rfl rfl) zd182_238 zxt184 rfl (by decide) (by decide) rfl ?_
            refine zv_ald hB zd182_241 rfl rfl rfl ?_
            refine zv_getr hB zd182_242 rfl ?_
            obtain ⟨r41, hr41, h⟩ := zi_bind h
            refine zv_cv hB (zv_emq (va2 := [.inr 7]) (F := [.inr 1, .inl f1, .inl f2, .inl f3, .inl f4, .inl f5, .inl f6, .inl f7, .inl f8, .inl f9, .inl f10, .inl f11, .inl f12, .inl f13, .inl f14, .inl f15, .inl f16, .inr 20, .inr 7, .inr 20, .inl q36.1, .inl q36.2.1, .inl q36.2.2.1, .inl q36.2.2.2.1, .inl f24, .inl q36.2.2.2.2.1, .inl f26, .inl q36.2.2.2.2.2.1, .inl f28, .inl f29, .inl f30, .inl f31, .inr 1000, .inr 1000, .inl q36.2.2.2.2.2.2.1]) (F' := [.inr 1, .inl f1, .inl f2, .inl f3, .inl f4, .inl f5, .inl r41.1, .inl f7, .inl r41.2.1, .inl f9, .inl f10, .inl f11, .inl f12, .inl f13, .inl f14, .inl f15, .inl f16, .inr 20, .inr 7, .inr 20, .inl q36.1, .inl q36.2.1, .inl q36.2.2.1, .inl q36.2.2.2.1, .inl f24, .inl q36.2.2.2.2.1, .inl f26, .inl q36.2.2.2.2.2.1, .inl f28, .inl f29, .inl f30, .inl f31, .inr 1000, .inr 1000, .inl q36.2.2.2.2.2.2.1]) (G := [g0, r40, g2, g3, g4, g5, g6, g7, g8, g9, g10, g11, g12, q36.2.2.2.2.2.2.2.2.1, q36.2.2.2.2.2.2.2.2.2.1, g15, g16, g17, g18, q36.2.2.2.2.2.2.2.2.2.2.1, g20, q36.2.2.2.2.2.2.2.2.2.2.2.1, q36.2.2.2.2.2.2.2.2.2.2.2.2.1, q36.2.2.2.2.2.2.2.2.2.2.2.2.2.1, g24, q36.2.2.2.2.2.2.2.2.2.2.2.2.2.2.1, q36.2.2.2.2.2.2.2.2.2.2.2.2.2.2.2]) (G' := [g0, r40, g2, g3, r41.2.2.1, g5, r41.2.2.2, g7, g8, g9, g10, g11, g12, q36.2.2.2.2.2.2.2.2.1, q36.2.2.2.2.2.2.2.2.2.1, g15, g16, g17, g18, q36.2.2.2.2.2.2.2.2.2.2.1, g20, q36.2.2.2.2.2.2.2.2.2.2.2.1, q36.2.2.2.2.2.2.2.2.2.2.2.2.1, q36.2.2.2.2.2.2.2.2.2.2.2.2.2.1, g24, q36.2.2.2.2.2.2.2.2.2.2.2.2.2.2.1, q36.2.2.2.2.2.2.2.2.2.2.2.2.2.2.2]) (ρ := [7, 10, 16, 12, 18]) (φ := [6, 8]) (ψ := [4, 10, 6, 12]) [none, none, none, none, none, none, some 0, none, some 1, none, none, none, none, none, none, none, none, none, none, none, none, none, none, none, none, none, none, none, none, none, none, none, none, none, none] [none, none, none, none, some 0, none, some 2, none, none, none, some 1, none, some 3, none, none, none, none, none, none, none, none, none, none, none, none, none, none] zyw_Sky_passHour zyw_X_log zye_X_log (by decide +kernel) (zt_Sky_passHour hr41) ⟨⟨_, rfl, fun _ => rfl⟩, ⟨_, rfl, fun _ => rfl⟩, trivial⟩ ⟨rfl, rfl, rfl, rfl, trivial⟩ rfl rfl rfl rfl rfl rfl rfl) zd182_245 zxt155 rfl (by decide) (by decide) rfl ?_
            refine zv_iincw hB zd182_248 rfl rfl ?_
            refine zv_goto hB zd182_251 rfl ?_
            refine zv_wk hB (L' := [.inr 0, .inl x1, .inl x2, .inr 1000, .inl (zi_w (x4 + 1)), .inr 1000, .inr 1000]) (F' := [.inr 1, .inl f1, .inl f2, .inl f3, .inl f4, .inl f5, .inl r41.1, .inl f7, .inl r41.2.1, .inl f9, .inl f10, .inl f11, .inl f12, .inl f13, .inl f14, .inl f15, .inl f16, .inr 20, .inr 1000, .inr 1000, .inl q36.1, .inl q36.2.1, .inl q36.2.2.1, .inl q36.2.2.2.1, .inl f24, .inl q36.2.2.2.2.1, .inl f26, .inl q36.2.2.2.2.2.1, .inl f28, .inl f29, .inl f30, .inl f31, .inr 1000, .inr 1000, .inl q36.2.2.2.2.2.2.1]) ⟨fun _ => rfl, fun _ => rfl, fun _ => rfl, fun (h : zv_is (.inr 1000)) => (Nat.lt_irrefl 1000 h).elim, fun _ => rfl, fun (h : zv_is (.inr 1000)) => (Nat.lt_irrefl 1000 h).elim, fun (h : zv_is (.inr 1000)) => (Nat.lt_irrefl 1000 h).elim, trivial⟩ ⟨fun _ => rfl, fun _ => rfl, fun _ => rfl, fun _ => rfl, fun _ => rfl, fun _ => rfl, fun _ => rfl, fun _ => rfl, fun _ => rfl, fun _ => rfl, fun _ => rfl, fun _ => rfl, fun _ => rfl, fun _ => rfl, fun _ => rfl, fun _ => rfl, fun _ => rfl, fun _ => rfl, fun (h : zv_is (.inr 1000)) => (Nat.lt_irrefl 1000 h).elim, fun (h : zv_is (.inr 1000)) => (Nat.lt_irrefl 1000 h).elim, fun _ => rfl, fun _ => rfl, fun _ => rfl, fun _ => rfl, fun _ => rfl, fun _ => rfl, fun _ => rfl, fun _ => rfl, fun _ => rfl, fun _ => rfl, fun _ => rfl, fun _ => rfl, fun (h : zv_is (.inr 1000)) => (Nat.lt_irrefl 1000 h).elim, fun (h : zv_is (.inr 1000)) => (Nat.lt_irrefl 1000 h).elim, fun _ => rfl, trivial⟩ ?_
            exact ih _ _ _ _ _ _ _ _ _ _ _ _ _ _ _ _ _ _ _ _ _ _ _ _ _ _ _ _ _ _ _ _ q h hK
  unfold zf_X_log at h
  refine zv_ild hB zd182_0 rfl rfl ?_
  refine zv_con hB zd182_1 rfl ?_
  refine zv_con hB zd182_2 rfl ?_
  obtain ⟨r1, hr1, h⟩ := zi_bind h
  refine zv_cs hB (zv_emq (va2 := [.inl x1, .inl 1, .inl 12]) (F := [.inr 1, .inl f1, .inl f2, .inl f3, .inl f4, .inl f5, .inl f6, .inl f7, .inl f8, .inl f9, .inl f10, .inl f11, .inl f12, .inl f13, .inl f14, .inl f15, .inl f16, .inr 20, .inr 1000, .inr 1000, .inl f20, .inl f21, .inl f22, .inl f23, .inl f24, .inl f25, .inl f26, .inl f27, .inl f28, .inl f29, .inl f30, .inl f31, .inr 1000, .inr 1000, .inl f34]) (F' := [.inr 1, .inl f1, .inl f2, .inl f3, .inl f4, .inl f5, .inl f6, .inl f7, .inl f8, .inl f9, .inl f10, .inl f11, .inl f12, .inl f13, .inl f14, .inl f15, .inl f16, .inr 20, .inr 1000, .inr 1000, .inl f20, .inl f21, .inl f22, .inl f23, .inl f24, .inl f25, .inl f26, .inl f27, .inl f28, .inl f29, .inl f30, .inl f31, .inr 1000, .inr 1000, .inl f34]) (G := [g0, g1, g2, g3, g4, g5, g6, g7, g8, g9, g10, g11, g12, g13, g14, g15, g16, g17, g18, g19, g20, g21, g22, g23, g24, g25, g26]) (G' := [g0, g1, g2, g3, g4, g5, g6, g7, g8, g9, g10, g11, g12, g13, g14, g15, g16, g17, g18, g19, g20, g21, g22, g23, g24, g25, g26]) (ρ := []) (φ := []) (ψ := []) [none, none, none, none, none, none, none, none, none, none, none, none, none, none, none, none, none, none, none, none, none, none, none, none, none, none, none, none, none, none, none, none, none, none, none] [none, none, none, none, none, none, none, none, none, none, none, none, none, none, none, none, none, none, none, none, none, none, none, none, none, none, none] zyw_X_isWithin zyw_X_log zye_X_log (by decide +kernel) (zt_X_isWithin hr1) trivial trivial rfl rfl rfl rfl rfl rfl rfl) zd182_4 zxt15 rfl (by decide) (by decide) rfl ?_
  refine zv_zeq hB zd182_7 rfl (fun hc2 => ?_) (fun hc2 => ?_)
  · rw [if_pos hc2] at h
    refine zv_con hB zd182_33 rfl ?_
    refine zv_ist hB zd182_34 rfl rfl rfl ?_
    refine zv_ild hB zd182_35 rfl rfl ?_
    refine zv_zeq hB zd182_36 rfl (fun _ => ?_) (fun hc => absurd hc (by decide))
    refine zv_con hB zd182_52 rfl ?_
    have hw := Option.some.inj h
    subst hw
    exact hret _ _ _ _ _ zd182_53 (by trivial) ⟨rfl, rfl, rfl⟩
  · rw [if_neg hc2] at h
    refine zv_ild hB zd182_10 rfl rfl ?_
    refine zv_con hB zd182_11 rfl ?_
    refine zv_con hB zd182_12 rfl ?_
    obtain ⟨r4, hr4, h⟩ := zi_bind h
    refine zv_cs hB (zv_emq (va2 := [.inl x2, .inl 0, .inl 1]) (F := [.inr 1, .inl f1, .inl f2, .inl f3, .inl f4, .inl f5, .inl f6, .inl f7, .inl f8, .inl f9, .inl f10, .inl f11, .inl f12, .inl f13, .inl f14, .inl f15, .inl f16, .inr 20, .inr 1000, .inr 1000, .inl f20, .inl f21, .inl f22, .inl f23, .inl f24, .inl f25, .inl f26, .inl f27, .inl f28, .inl f29, .inl f30, .inl f31, .inr 1000, .inr 1000, .inl f34]) (F' := [.inr 1, .inl f1, .inl f2, .inl f3, .inl f4, .inl f5, .inl f6, .inl f7, .inl f8, .inl f9, .inl f10, .inl f11, .inl f12, .inl f13, .inl f14, .inl f15, .inl f16, .inr 20, .inr 1000, .inr 1000, .inl f20, .inl f21, .inl f22, .inl f23, .inl f24, .inl f25, .inl f26, .inl f27, .inl f28, .inl f29, .inl f30, .inl f31, .inr 1000, .inr 1000, .inl f34]) (G := [g0, g1, g2, g3, g4, g5, g6, g7, g8, g9, g10, g11, g12, g13, g14, g15, g16, g17, g18, g19, g20, g21, g22, g23, g24, g25, g26]) (G' := [g0, g1, g2, g3, g4, g5, g6, g7, g8, g9, g10, g11, g12, g13, g14, g15, g16, g17, g18, g19, g20, g21, g22, g23, g24, g25, g26]) (ρ := []) (φ := []) (ψ := []) [none, none, none, none, none, none, none, none, none, none, none, none, none, none, none, none, none, none, none, none, none, none, none, none, none, none, none, none, none, none, none, none, none, none, none] [none, none, none, none, none, none, none, none, none, none, none, none, none, none, none, none, none, none, none, none, none, none, none, none, none, none, none] zyw_X_isWithin zyw_X_log zye_X_log (by decide +kernel) (zt_X_isWithin hr4) trivial trivial rfl rfl rfl rfl rfl rfl rfl) zd182_13 zxt15 rfl (by decide) (by decide) rfl ?_
    refine zv_zeq hB zd182_16 rfl (fun hc5 => ?_) (fun hc5 => ?_)
    · rw [if_pos hc5] at h
      refine zv_con hB zd182_33 rfl ?_
      refine zv_ist hB zd182_34 rfl rfl rfl ?_
      refine zv_ild hB zd182_35 rfl rfl ?_
      refine zv_zeq hB zd182_36 rfl (fun _ => ?_) (fun hc => absurd hc (by decide))
      refine zv_con hB zd182_52 rfl ?_
      have hw := Option.some.inj h
      subst hw
      exact hret _ _ _ _ _ zd182_53 (by trivial) ⟨rfl, rfl, rfl⟩
    · rw [if_neg hc5] at h
      refine zv_ald hB zd182_19 rfl rfl rfl ?_
      refine zv_getq hB zd182_20 rfl rfl rfl ?_
      refine zv_getf hB zd182_23 rfl rfl (fun _ _ => ?_)
      refine zv_zeq hB zd182_26 rfl (fun hc7 => ?_) (fun hc7 => ?_)
      · rw [if_pos hc7] at h
        refine zv_con hB zd182_33 rfl ?_
        refine zv_ist hB zd182_34 rfl rfl rfl ?_
        refine zv_ild hB zd182_35 rfl rfl ?_
        refine zv_zeq hB zd182_36 rfl (fun _ => ?_) (fun hc => absurd hc (by decide))
        refine zv_con hB zd182_52 rfl ?_
        have hw := Option.some.inj h
        subst hw
        exact hret _ _ _ _ _ zd182_53 (by trivial) ⟨rfl, rfl, rfl⟩
      · rw [if_neg hc7] at h
        refine zv_con hB zd182_29 rfl ?_
        refine zv_goto hB zd182_30 rfl ?_
        refine zv_ist hB zd182_34 rfl rfl rfl ?_
        refine zv_ild hB zd182_35 rfl rfl ?_
        refine zv_zeq hB zd182_36 rfl (fun hc => absurd hc (by decide)) (fun _ => ?_)
        refine zv_ald hB zd182_39 rfl rfl rfl ?_
        refine zv_getr hB zd182_40 rfl ?_
        refine zv_con hB zd182_43 rfl ?_
        refine zv_ild hB zd182_44 rfl rfl ?_
        refine zv_mulw hB zd182_45 ?_
        obtain ⟨r10, hr10, h⟩ := zi_bind h
        refine zv_cv hB (zv_emq (va2 := [.inr 2, .inl (zi_w (2 * x1))]) (F := [.inr 1, .inl f1, .inl f2, .inl f3, .inl f4, .inl f5, .inl f6, .inl f7, .inl f8, .inl f9, .inl f10, .inl f11, .inl f12, .inl f13, .inl f14, .inl f15, .inl f16, .inr 20, .inr 1000, .inr 1000, .inl f20, .inl f21, .inl f22, .inl f23, .inl f24, .inl f25, .inl f26, .inl f27, .inl f28, .inl f29, .inl f30, .inl f31, .inr 1000, .inr 1000, .inl f34]) (F' := [.inr 1, .inl f1, .inl r10.2, .inl f3, .inl f4, .inl f5, .inl f6, .inl f7, .inl f8, .inl f9, .inl f10, .inl f11, .inl f12, .inl f13, .inl f14, .inl f15, .inl f16, .inr 20, .inr 1000, .inr 1000, .inl f20, .inl f21, .inl f22, .inl f23, .inl f24, .inl f25, .inl f26, .inl f27, .inl f28, .inl f29, .inl f30, .inl f31, .inr 1000, .inr 1000, .inl f34]) (G := [g0, g1, g2, g3, g4, g5, g6, g7, g8, g9, g10, g11, g12, g13, g14, g15, g16, g17, g18, g19, g20, g21, g22, g23, g24, g25, g26]) (G' := [g0, g1, g2, g3, g4, g5, g6, g7, g8, g9, g10, g11, g12, g13, g14, g15, g16, g17, g18, g19, g20, g21, g22, g23, g24, g25, g26]) (ρ := [2]) (φ := [2]) (ψ := []) [none, none, some 0, none, none, none, none, none, none, none, none, none, none, none, none, none, none, none, none, none, none, none, none, none, none, none, none, none, none, none, none, none, none, none, none] [none, none, none, none, none, none, none, none, none, none, none, none, none, none, none, none, none, none, none, none, none, none, none, none, none, none, none] zyw_Tape_take zyw_X_log zye_X_log (by decide +kernel) (zt_Tape_take hr10) ⟨⟨_, rfl, fun _ => rfl⟩, trivial⟩ trivial rfl rfl rfl rfl rfl rfl rfl) zd182_46 zxt35 rfl (by decide) (by decide) rfl ?_
        refine zv_zne hB zd182_49 rfl (fun hc11 => ?_) (fun hc11 => ?_)
        · rw [if_neg hc11] at h
          refine zv_ald hB zd182_54 rfl rfl rfl ?_
          refine zv_ild hB zd182_55 rfl rfl ?_
          obtain ⟨r12, hr12, h⟩ := zi_bind h
          refine zv_cv hB (zv_emq (va2 := [.inr 0, .inl x1]) (F := [.inr 1, .inl f1, .inl r10.2, .inl f3, .inl f4, .inl f5, .inl f6, .inl f7, .inl f8, .inl f9, .inl f10, .inl f11, .inl f12, .inl f13, .inl f14, .inl f15, .inl f16, .inr 20, .inr 1000, .inr 1000, .inl f20, .inl f21, .inl f22, .inl f23, .inl f24, .inl f25, .inl f26, .inl f27, .inl f28, .inl f29, .inl f30, .inl f31, .inr 1000, .inr 1000, .inl f34]) (F' := [.inr 1, .inl f1, .inl r10.2, .inl f3, .inl f4, .inl f5, .inl f6, .inl f7, .inl f8, .inl f9, .inl f10, .inl f11, .inl f12, .inl f13, .inl f14, .inl f15, .inl f16, .inr 20, .inr 1000, .inr 1000, .inl f20, .inl f21, .inl f22, .inl f23, .inl f24, .inl f25, .inl f26, .inl f27, .inl f28, .inl f29, .inl f30, .inl f31, .inr 1000, .inr 1000, .inl f34]) (G := [g0, g1, g2, g3, g4, g5, g6, g7, g8, g9, g10, g11, g12, g13, g14, g15, g16, g17, g18, g19, g20, g21, g22, g23, g24, g25, g26]) (G' := [g0, g1, g2, g3, g4, g5, g6, g7, g8, g9, g10, g11, g12, g13, g14, g15, g16, g17, g18, g19, g20, g21, g22, g23, g24, g25, g26]) (ρ := [0, 2, 3]) (φ := []) (ψ := [0]) [none, none, none, none, none, none, none, none, none, none, none, none, none, none, none, none, none, none, none, none, none, none, none, none, none, none, none, none, none, none, none, none, none, none, none] [some 0, none, none, none, none, none, none, none, none, none, none, none, none, none, none, none, none, none, none, none, none, none, none, none, none, none, none] zyw_X_isLogBytes zyw_X_log zye_X_log (by decide +kernel) (zt_X_isLogBytes hr12) trivial ⟨rfl, trivial⟩ rfl rfl rfl rfl rfl rfl rfl) zd182_56 zxt183 rfl (by decide) (by decide) rfl ?_
          refine zv_zne hB zd182_59 rfl (fun hc13 => ?_) (fun hc13 => ?_)
          · rw [if_neg hc13] at h
            refine zv_con hB zd182_65 rfl ?_
            refine zv_ist hB zd182_66 rfl rfl rfl ?_
            obtain ⟨q19, hq19, h⟩ := zi_bind h
            refine zv_wk hB (L' := [.inr 0, .inl x1, .inl x2, .inr 1000, .inl 0, .inr 1000, .inr 1000]) (F' := [.inr 1, .inl f1, .inl r10.2, .inl f3, .inl f4, .inl f5, .inl f6, .inl f7, .inl f8, .inl f9, .inl f10, .inl f11, .inl f12, .inl f13, .inl f14, .inl f15, .inl f16, .inr 20, .inr 1000, .inr 1000, .inl f20, .inl f21, .inl f22, .inl f23, .inl f24, .inl f25, .inl f26, .inl f27, .inl f28, .inl f29, .inl f30, .inl f31, .inr 1000, .inr 1000, .inl f34]) ⟨fun _ => rfl, fun _ => rfl, fun _ => rfl, fun (h : zv_is (.inr 1000)) => (Nat.lt_irrefl 1000 h).elim, fun _ => rfl, fun (h : zv_is (.inr 1000)) => (Nat.lt_irrefl 1000 h).elim, fun (h : zv_is (.inr 1000)) => (Nat.lt_irrefl 1000 h).elim, trivial⟩ ⟨fun _ => rfl, fun _ => rfl, fun _ => rfl, fun _ => rfl, fun _ => rfl, fun _ => rfl, fun _ => rfl, fun _ => rfl, fun _ => rfl, fun _ => rfl, fun _ => rfl, fun _ => rfl, fun _ => rfl, fun _ => rfl, fun _ => rfl, fun _ => rfl, fun _ => rfl, fun _ => rfl, fun (h : zv_is (.inr 1000)) => (Nat.lt_irrefl 1000 h).elim, fun (h : zv_is (.inr 1000)) => (Nat.lt_irrefl 1000 h).elim, fun _ => rfl, fun _ => rfl, fun _ => rfl, fun _ => rfl, fun _ => rfl, fun _ => rfl, fun _ => rfl, fun _ => rfl, fun _ => rfl, fun _ => rfl, fun _ => rfl, fun _ => rfl, fun (h : zv_is (.inr 1000)) => (Nat.lt_irrefl 1000 h).elim, fun (h : zv_is (.inr 1000)) => (Nat.lt_irrefl 1000 h).elim, fun _ => rfl, trivial⟩ ?_
            refine l0 _ _ _ _ _ _ _ _ _ _ _ _ _ _ _ _ _ _ _ _ _ _ _ _ _ _ _ _ _ _ _ _ _ q19 hq19 ?_
            show good 107 [.inr 0, .inl x1, .inl x2, .inr 1000, .inr 1000, .inr 1000, .inr 1000] [] [.inr 1, .inl f1, .inl r10.2, .inl f3, .inl f4, .inl f5, .inl f6, .inl f7, .inl f8, .inl f9, .inl f10, .inl f11, .inl f12, .inl f13, .inl f14, .inl f15, .inl f16, .inr 20, .inr 1000, .inr 1000, .inl f20, .inl f21, .inl f22, .inl f23, .inl f24, .inl f25, .inl f26, .inl f27, .inl f28, .inl f29, .inl f30, .inl f31, .inr 1000, .inr 1000, .inl f34] [g0, q19, g2, g3, g4, g5, g6, g7, g8, g9, g10, g11, g12, g13, g14, g15, g16, g17, g18, g19, g20, g21, g22, g23, g24, g25, g26]
            refine zv_ald hB zd182_107 rfl rfl rfl ?_
            refine zv_getr hB zd182_108 rfl ?_
            refine zv_ald hB zd182_111 rfl rfl rfl ?_
            refine zv_getr hB zd182_112 rfl ?_
            obtain ⟨r20, hr20, h⟩ := zi_bind h
            refine zv_cv hB (zv_emq (va2 := [.inr 7, .inr 8]) (F := [.inr 1, .inl f1, .inl r10.2, .inl f3, .inl f4, .inl f5, .inl f6, .inl f7, .inl f8, .inl f9, .inl f10, .inl f11, .inl f12, .inl f13, .inl f14, .inl f15, .inl f16, .inr 20, .inr 1000, .inr 1000, .inl f20, .inl f21, .inl f22, .inl f23, .inl f24, .inl f25, .inl f26, .inl f27, .inl f28, .inl f29, .inl f30, .inl f31, .inr 1000, .inr 1000, .inl f34]) (F' := [.inr 1, .inl f1, .inl r10.2, .inl f3, .inl r20.1, .inl f5, .inl r20.2.1, .inl f7, .inl r20.2.2.1, .inl f9, .inl r20.2.2.2.1, .inl f11, .inl r20.2.2.2.2.1, .inl f13, .inl r20.2.2.2.2.2.1, .inl f15, .inl r20.2.2.2.2.2.2.1, .inr 20, .inr 1000, .inr 1000, .inl f20, .inl f21, .inl f22, .inl f23, .inl f24, .inl f25, .inl f26, .inl f27, .inl f28, .inl f29, .inl f30, .inl f31, .inr 1000, .inr 1000, .inl f34]) (G := [g0, q19, g2, g3, g4, g5, g6, g7, g8, g9, g10, g11, g12, g13, g14, g15, g16, g17, g18, g19, g20, g21, g22, g23, g24, g25, g26]) (G' := [g0, q19, g2, g3, r20.2.2.2.2.2.2.2.1, g5, r20.2.2.2.2.2.2.2.2.1, g7, r20.2.2.2.2.2.2.2.2.2.1, g9, r20.2.2.2.2.2.2.2.2.2.2.1, g11, r20.2.2.2.2.2.2.2.2.2.2.2, g13, g14, g15, g16, g17, g18, g19, g20, g21, g22, g23, g24, g25, g26]) (ρ := [7, 8, 9, 10, 11, 12, 13, 14, 15, 16, 17, 18]) (φ := [3, 4, 5, 6, 7, 8, 9, 10, 11, 12, 13, 14, 15, 16]) (ψ := [3, 4, 5, 6, 7, 8, 9, 10, 11, 12]) [none, none, none, some 0, some 1, some 2, some 3, some 4, some 5, some 6, some 7, some 8, some 9, some 10, some 11, some 12, some 13, none, none, none, none, none, none, none, none, none, none, none, none, none, none, none, none, none, none] [none, none, none, some 0, some 1, some 2, some 3, some 4, some 5, some 6, some 7, some 8, some 9, none, none, none, none, none, none, none, none, none, none, none, none, none, none] zyw_Sky_copyFrom zyw_X_log zye_X_log (by decide +kernel) (zt_Sky_copyFrom hr20) ⟨⟨_, rfl, fun _ => rfl⟩, ⟨_, rfl, fun _ => rfl⟩, ⟨_, rfl, fun _ => rfl⟩, ⟨_, rfl, fun _ => rfl⟩, ⟨_, rfl, fun _ => rfl⟩, ⟨_, rfl, fun _ => rfl⟩, ⟨_, rfl, fun _ => rfl⟩, ⟨_, rfl, fun _ => rfl⟩, ⟨_, rfl, fun _ => rfl⟩, ⟨_, rfl, fun _ => rfl⟩, ⟨_, rfl, fun _ => rfl⟩, ⟨_, rfl, fun _ => rfl⟩, ⟨_, rfl, fun _ => rfl⟩, ⟨_, rfl, fun _ => rfl⟩, trivial⟩ ⟨rfl, rfl, rfl, rfl, rfl, rfl, rfl, rfl, rfl, rfl, trivial⟩ rfl rfl rfl rfl rfl rfl rfl) zd182_115 zxt125 rfl (by decide) (by decide) rfl ?_
            refine zv_con hB zd182_118 rfl ?_
            refine zv_ist hB zd182_119 rfl rfl rfl ?_
            obtain ⟨q42, hq42, h⟩ := zi_bind h
            refine l1 _ _ _ _ _ _ _ _ _ _ _ _ _ _ _ _ _ _ _ _ _ _ _ _ _ _ _ _ _ _ _ _ _ q42 hq42 ?_
            show good 254 [.inr 0, .inr 1000, .inl x2, .inr 1000, .inr 1000, .inr 1000, .inr 1000] [] [.inr 1, .inl f1, .inl r10.2, .inl f3, .inl r20.1, .inl f5, .inl q42.1, .inl f7, .inl q42.2.1, .inl f9, .inl r20.2.2.2.1, .inl f11, .inl r20.2.2.2.2.1, .inl f13, .inl r20.2.2.2.2.2.1, .inl f15, .inl r20.2.2.2.2.2.2.1, .inr 20, .inr 1000, .inr 1000, .inl q42.2.2.1, .inl q42.2.2.2.1, .inl q42.2.2.2.2.1, .inl q42.2.2.2.2.2.1, .inl f24, .inl q42.2.2.2.2.2.2.1, .inl f26, .inl q42.2.2.2.2.2.2.2.1, .inl f28, .inl f29, .inl f30, .inl f31, .inr 1000, .inr 1000, .inl q42.2.2.2.2.2.2.2.2.1] [g0, q42.2.2.2.2.2.2.2.2.2.1, g2, g3, q42.2.2.2.2.2.2.2.2.2.2.1, g5, q42.2.2.2.2.2.2.2.2.2.2.2.1, g7, r20.2.2.2.2.2.2.2.2.2.1, g9, r20.2.2.2.2.2.2.2.2.2.2.1, g11, r20.2.2.2.2.2.2.2.2.2.2.2, q42.2.2.2.2.2.2.2.2.2.2.2.2.1, q42.2.2.2.2.2.2.2.2.2.2.2.2.2.1, g15, g16, g17, g18, q42.2.2.2.2.2.2.2.2.2.2.2.2.2.2.1, g20, q42.2.2.2.2.2.2.2.2.2.2.2.2.2.2.2.1, q42.2.2.2.2.2.2.2.2.2.2.2.2.2.2.2.2.1, q42.2.2.2.2.2.2.2.2.2.2.2.2.2.2.2.2.2.1, g24, q42.2.2.2.2.2.2.2.2.2.2.2.2.2.2.2.2.2.2.1, q42.2.2.2.2.2.2.2.2.2.2.2.2.2.2.2.2.2.2.2]
            refine zv_ild hB zd182_254 rfl rfl ?_
            refine zv_zne hB zd182_255 rfl (fun hc43 => ?_) (fun hc43 => ?_)
            · rw [if_neg hc43] at h
              refine zv_ald hB zd182_265 rfl rfl rfl ?_
              obtain ⟨r44, hr44, h⟩ := zi_bind h
              refine zv_cv hB (zv_emq (va2 := [.inr 0]) (F := [.inr 1, .inl f1, .inl r10.2, .inl f3, .inl r20.1, .inl f5, .inl q42.1, .inl f7, .inl q42.2.1, .inl f9, .inl r20.2.2.2.1, .inl f11, .inl r20.2.2.2.2.1, .inl f13, .inl r20.2.2.2.2.2.1, .inl f15, .inl r20.2.2.2.2.2.2.1, .inr 20, .inr 1000, .inr 1000, .inl q42.2.2.1, .inl q42.2.2.2.1, .inl q42.2.2.2.2.1, .inl q42.2.2.2.2.2.1, .inl f24, .inl q42.2.2.2.2.2.2.1, .inl f26, .inl q42.2.2.2.2.2.2.2.1, .inl f28, .inl f29, .inl f30, .inl f31, .inr 1000, .inr 1000, .inl q42.2.2.2.2.2.2.2.2.1]) (F' := [.inr 1, .inl f1, .inl r10.2, .inl f3, .inl r20.1, .inl f5, .inl q42.1, .inl f7, .inl q42.2.1, .inl f9, .inl r20.2.2.2.1, .inl f11, .inl r20.2.2.2.2.1, .inl f13, .inl r20.2.2.2.2.2.1, .inl f15, .inl r20.2.2.2.2.2.2.1, .inr 20, .inr 1000, .inr 1000, .inl q42.2.2.1, .inl q42.2.2.2.1, .inl q42.2.2.2.2.1, .inl q42.2.2.2.2.2.1, .inl f24, .inl q42.2.2.2.2.2.2.1, .inl f26, .inl q42.2.2.2.2.2.2.2.1, .inl f28, .inl f29, .inl f30, .inl f31, .inr 1000, .inr 1000, .inl q42.2.2.2.2.2.2.2.2.1]) (G := [g0, q42.2.2.2.2.2.2.2.2.2.1, g2, g3, q42.2.2.2.2.2.2.2.2.2.2.1, g5, q42.2.2.2.2.2.2.2.2.2.2.2.1, g7, r20.2.2.2.2.2.2.2.2.2.1, g9, r20.2.2.2.2.2.2.2.2.2.2.1, g11, r20.2.2.2.2.2.2.2.2.2.2.2, q42.2.2.2.2.2.2.2.2.2.2.2.2.1, q42.2.2.2.2.2.2.2.2.2.2.2.2.2.1, g15, g16, g17, g18, q42.2.2.2.2.2.2.2.2.2.2.2.2.2.2.1, g20, q42.2.2.2.2.2.2.2.2.2.2.2.2.2.2.2.1, q42.2.2.2.2.2.2.2.2.2.2.2.2.2.2.2.2.1, q42.2.2.2.2.2.2.2.2.2.2.2.2.2.2.2.2.2.1, g24, q42.2.2.2.2.2.2.2.2.2.2.2.2.2.2.2.2.2.2.1, q42.2.2.2.2.2.2.2.2.2.2.2.2.2.2.2.2.2.2.2]) (G' := [g0, q42.2.2.2.2.2.2.2.2.2.1, g2, g3, q42.2.2.2.2.2.2.2.2.2.2.1, g5, q42.2.2.2.2.2.2.2.2.2.2.2.1, g7, r20.2.2.2.2.2.2.2.2.2.1, g9, r20.2.2.2.2.2.2.2.2.2.2.1, g11, r20.2.2.2.2.2.2.2.2.2.2.2, q42.2.2.2.2.2.2.2.2.2.2.2.2.1, q42.2.2.2.2.2.2.2.2.2.2.2.2.2.1, g15, g16, g17, g18, q42.2.2.2.2.2.2.2.2.2.2.2.2.2.2.1, g20, q42.2.2.2.2.2.2.2.2.2.2.2.2.2.2.2.1, q42.2.2.2.2.2.2.2.2.2.2.2.2.2.2.2.2.1, q42.2.2.2.2.2.2.2.2.2.2.2.2.2.2.2.2.2.1, g24, q42.2.2.2.2.2.2.2.2.2.2.2.2.2.2.2.2.2.2.1, q42.2.2.2.2.2.2.2.2.2.2.2.2.2.2.2.2.2.2.2]) (ρ := [0, 4]) (φ := []) (ψ := [1]) [none, none, none, none, none, none, none, none, none, none, none, none, none, none, none, none, none, none, none, none, none, none, none, none, none, none, none, none, none, none, none, none, none, none, none] [none, some 0, none, none, none, none, none, none, none, none, none, none, none, none, none, none, none, none, none, none, none, none, none, none, none, none, none] zyw_X_firstSpot zyw_X_log zye_X_log (by decide +kernel) (zt_X_firstSpot hr44) trivial ⟨rfl, trivial⟩ rfl rfl rfl rfl rfl rfl rfl) zd182_266 zxt186 rfl (by decide) (by decide) rfl ?_
              have hw := Option.some.inj h
              subst hw
              exact hret _ _ _ _ _ zd182_269 (by trivial) ⟨rfl, rfl, rfl⟩
            · rw [if_pos hc43] at h
              refine zv_ald hB zd182_258 rfl rfl rfl ?_
              obtain ⟨r45, hr45, h⟩ := zi_bind h
              refine zv_cv hB (zv_emq (va2 := [.inr 0]) (F := [.inr 1, .inl f1, .inl r10.2, .inl f3, .inl r20.1, .inl f5, .inl q42.1, .inl f7, .inl q42.2.1, .inl f9, .inl r20.2.2.2.1, .inl f11, .inl r20.2.2.2.2.1, .inl f13, .inl r20.2.2.2.2.2.1, .inl f15, .inl r20.2.2.2.2.2.2.1, .inr 20, .inr 1000, .inr 1000, .inl q42.2.2.1, .inl q42.2.2.2.1, .inl q42.2.2.2.2.1, .inl q42.2.2.2.2.2.1, .inl f24, .inl q42.2.2.2.2.2.2.1, .inl f26, .inl q42.2.2.2.2.2.2.2.1, .inl f28, .inl f29, .inl f30, .inl f31, .inr 1000, .inr 1000, .inl q42.2.2.2.2.2.2.2.2.1]) (F' := [.inr 1, .inl f1, .inl r10.2, .inl f3, .inl r20.1, .inl f5, .inl q42.1, .inl f7, .inl q42.2.1, .inl f9, .inl r20.2.2.2.1, .inl f11, .inl r20.2.2.2.2.1, .inl f13, .inl r20.2.2.2.2.2.1, .inl f15, .inl r20.2.2.2.2.2.2.1, .inr 20, .inr 1000, .inr 1000, .inl q42.2.2.1, .inl q42.2.2.2.1, .inl q42.2.2.2.2.1, .inl q42.2.2.2.2.2.1, .inl f24, .inl q42.2.2.2.2.2.2.1, .inl f26, .inl q42.2.2.2.2.2.2.2.1, .inl f28, .inl f29, .inl f30, .inl f31, .inr 1000, .inr 1000, .inl q42.2.2.2.2.2.2.2.2.1]) (G := [g0, q42.2.2.2.2.2.2.2.2.2.1, g2, g3, q42.2.2.2.2.2.2.2.2.2.2.1, g5, q42.2.2.2.2.2.2.2.2.2.2.2.1, g7, r20.2.2.2.2.2.2.2.2.2.1, g9, r20.2.2.2.2.2.2.2.2.2.2.1, g11, r20.2.2.2.2.2.2.2.2.2.2.2, q42.2.2.2.2.2.2.2.2.2.2.2.2.1, q42.2.2.2.2.2.2.2.2.2.2.2.2.2.1, g15, g16, g17, g18, q42.2.2.2.2.2.2.2.2.2.2.2.2.2.2.1, g20, q42.2.2.2.2.2.2.2.2.2.2.2.2.2.2.2.1, q42.2.2.2.2.2.2.2.2.2.2.2.2.2.2.2.2.1, q42.2.2.2.2.2.2.2.2.2.2.2.2.2.2.2.2.2.1, g24, q42.2.2.2.2.2.2.2.2.2.2.2.2.2.2.2.2.2.2.1, q42.2.2.2.2.2.2.2.2.2.2.2.2.2.2.2.2.2.2.2]) (G' := [g0, q42.2.2.2.2.2.2.2.2.2.1, g2, g3, q42.2.2.2.2.2.2.2.2.2.2.1, g5, q42.2.2.2.2.2.2.2.2.2.2.2.1, g7, r20.2.2.2.2.2.2.2.2.2.1, g9, r20.2.2.2.2.2.2.2.2.2.2.1, g11, r20.2.2.2.2.2.2.2.2.2.2.2, q42.2.2.2.2.2.2.2.2.2.2.2.2.1, q42.2.2.2.2.2.2.2.2.2.2.2.2.2.1, g15, g16, g17, g18, q42.2.2.2.2.2.2.2.2.2.2.2.2.2.2.1, g20, q42.2.2.2.2.2.2.2.2.2.2.2.2.2.2.2.1, q42.2.2.2.2.2.2.2.2.2.2.2.2.2.2.2.2.1, q42.2.2.2.2.2.2.2.2.2.2.2.2.2.2.2.2.2.1, g24, q42.2.2.2.2.2.2.2.2.2.2.2.2.2.2.2.2.2.2.1, q42.2.2.2.2.2.2.2.2.2.2.2.2.2.2.2.2.2.2.2]) (ρ := [0, 4]) (φ := []) (ψ := [1]) [none, none, none, none, none, none, none, none, none, none, none, none, none, none, none, none, none, none, none, none, none, none, none, none, none, none, none, none, none, none, none, none, none, none, none] [none, some 0, none, none, none, none, none, none, none, none, none, none, none, none, none, none, none, none, none, none, none, none, none, none, none, none, none] zyw_X_countSpots zyw_X_log zye_X_log (by decide +kernel) (zt_X_countSpots hr45) trivial ⟨rfl, trivial⟩ rfl rfl rfl rfl rfl rfl rfl) zd182_259 zxt185 rfl (by decide) (by decide) rfl ?_
              refine zv_goto hB zd182_262 rfl ?_
              have hw := Option.some.inj h
              subst hw
              exact hret _ _ _ _ _ zd182_269 (by trivial) ⟨rfl, rfl, rfl⟩
          · rw [if_pos hc13] at h
            refine zv_con hB zd182_62 rfl ?_
            have hw := Option.some.inj h
            subst hw
            exact hret _ _ _ _ _ zd182_64 (by trivial) ⟨rfl, rfl, rfl⟩
        · rw [if_pos hc11] at h
          refine zv_con hB zd182_52 rfl ?_
          have hw := Option.some.inj h
          subst hw
          exact hret _ _ _ _ _ zd182_53 (by trivial) ⟨rfl, rfl, rfl⟩
end
section
/-! Methods as functions, and that they do what these do. -/
/-! X_over (II)I -/
-- names: 0 StarTales('arg', 0), 1 Sky(0, 0, 0), 2 (0, 24)(1, 1, 2), 3 (0, 24)(1, 1, 1)
-- fields: f0 = 1.told_; arrays: g0 = 2, g1 = 3; out: [('ret', None)]
abbrev zy_X_over : zNL := (4, [(0, 0), (1, 1)], [(1, 1, 0, 0)], [(0, 0, 0, 1), (1, 1, 2, 2), (1, 1, 1, 3)], [(2, 0, 24, 0), (3, 0, 24, 1)])
theorem zyw_X_over : zv_wf zy_X_over = true := by decide +kernel
theorem zye_X_over : zv_ek2 zy_X_over = true := by decide +kernel
def zf_X_over_l0_b (x1 : Int) (x2 : Int) (f0 : Int) (g0 : (Int → Int)) (g1 : (Int → Int)) (rec : Int → Int → Option (Int)) (x3 : Int) (x4 : Int) : Option (Int) := if x4 < 24 then ((zf_Sky_hasStar x4 f0).bind fun r4 => (if r4 = 0 then (rec x3 (zi_w (x4 + 1))) else (cond (zi_ix x4 24) (if (g0 x4) = x2 then ((zf_Math_floorMod (zi_w (x1 - (g1 x4))) 24).bind fun r8 => (rec (zi_or x3 (zi_shl 1 r8)) (zi_w (x4 + 1)))) else (rec x3 (zi_w (x4 + 1)))) none))) else (some x3)
def zf_X_over_l0 (x1 : Int) (x2 : Int) (f0 : Int) (g0 : (Int → Int)) (g1 : (Int → Int)) : Nat → Int → Int → Option (Int)
  | 0, _, _ => none
  | n + 1, x3, x4 => zf_X_over_l0_b x1 x2 f0 g0 g1 (zf_X_over_l0 x1 x2 f0 g0 g1 n) x3 x4
def zf_X_over (x1 : Int) (x2 : Int) (f0 : Int) (g0 : (Int → Int)) (g1 : (Int → Int)) : Option (Int) := (zf_X_isPlace x1 x2).bind fun r1 => (if r1 = 0 then (some (-1)) else ((zf_X_over_l0 x1 x2 f0 g0 g1 zi_fu 0 0).bind fun q9 => (some q9)))
theorem zd187_0 : decode zxm187.2.1 0 = .ok (.iload_n 1, 1) := by decide +kernel
theorem zd187_1 : decode zxm187.2.1 1 = .ok (.iload_n 2, 1) := by decide +kernel
theorem zd187_2 : decode zxm187.2.1 2 = .ok (.invokestatic 130, 3) := by decide +kernel
theorem zd187_5 : decode zxm187.2.1 5 = .ok (.ifCond .ne 5, 3) := by decide +kernel
theorem zd187_8 : decode zxm187.2.1 8 = .ok (.iconst (-1), 1) := by decide +kernel
theorem zd187_9 : decode zxm187.2.1 9 = .ok (.ireturn, 1) := by decide +kernel
theorem zd187_10 : decode zxm187.2.1 10 = .ok (.iconst 0, 1) := by decide +kernel
theorem zd187_11 : decode zxm187.2.1 11 = .ok (.istore_n 3, 1) := by decide +kernel
theorem zd187_12 : decode zxm187.2.1 12 = .ok (.iconst 0, 1) := by decide +kernel
theorem zd187_13 : decode zxm187.2.1 13 = .ok (.istore 4, 2) := by decide +kernel
theorem zd187_15 : decode zxm187.2.1 15 = .ok (.iload 4, 2) := by decide +kernel
theorem zd187_17 : decode zxm187.2.1 17 = .ok (.bipush 24, 2) := by decide +kernel
theorem zd187_19 : decode zxm187.2.1 19 = .ok (.if_icmp .ge 57, 3) := by decide +kernel
theorem zd187_22 : decode zxm187.2.1 22 = .ok (.aload_n 0, 1) := by decide +kernel
theorem zd187_23 : decode zxm187.2.1 23 = .ok (.getfield 10, 3) := by decide +kernel
theorem zd187_26 : decode zxm187.2.1 26 = .ok (.iload 4, 2) := by decide +kernel
theorem zd187_28 : decode zxm187.2.1 28 = .ok (.invokevirtual 153, 3) := by decide +kernel
theorem zd187_31 : decode zxm187.2.1 31 = .ok (.ifCond .eq 39, 3) := by decide +kernel
theorem zd187_34 : decode zxm187.2.1 34 = .ok (.aload_n 0, 1) := by decide +kernel
theorem zd187_35 : decode zxm187.2.1 35 = .ok (.getfield 10, 3) := by decide +kernel
theorem zd187_38 : decode zxm187.2.1 38 = .ok (.getfield 141, 3) := by decide +kernel
theorem zd187_41 : decode zxm187.2.1 41 = .ok (.iload 4, 2) := by decide +kernel
theorem zd187_43 : decode zxm187.2.1 43 = .ok (.iaload, 1) := by decide +kernel
theorem zd187_44 : decode zxm187.2.1 44 = .ok (.iload_n 2, 1) := by decide +kernel
theorem zd187_45 : decode zxm187.2.1 45 = .ok (.if_icmp .ne 25, 3) := by decide +kernel
theorem zd187_48 : decode zxm187.2.1 48 = .ok (.iload_n 3, 1) := by decide +kernel
theorem zd187_49 : decode zxm187.2.1 49 = .ok (.iconst 1, 1) := by decide +kernel
theorem zd187_50 : decode zxm187.2.1 50 = .ok (.iload_n 1, 1) := by decide +kernel
theorem zd187_51 : decode zxm187.2.1 51 = .ok (.aload_n 0, 1) := by decide +kernel
theorem zd187_52 : decode zxm187.2.1 52 = .ok (.getfield 10, 3) := by decide +kernel
theorem zd187_55 : decode zxm187.2.1 55 = .ok (.getfield 138, 3) := by decide +kernel
theorem zd187_58 : decode zxm187.2.1 58 = .ok (.iload 4, 2) := by decide +kernel
theorem zd187_60 : decode zxm187.2.1 60 = .ok (.iaload, 1) := by decide +kernel
theorem zd187_61 : decode zxm187.2.1 61 = .ok (.isub, 1) := by decide +kernel
theorem zd187_62 : decode zxm187.2.1 62 = .ok (.bipush 24, 2) := by decide +kernel
theorem zd187_64 : decode zxm187.2.1 64 = .ok (.invokestatic 395, 3) := by decide +kernel
theorem zd187_67 : decode zxm187.2.1 67 = .ok (.ishl, 1) := by decide +kernel
theorem zd187_68 : decode zxm187.2.1 68 = .ok (.ior, 1) := by decide +kernel
theorem zd187_69 : decode zxm187.2.1 69 = .ok (.istore_n 3, 1) := by decide +kernel
theorem zd187_70 : decode zxm187.2.1 70 = .ok (.iinc 4 1, 3) := by decide +kernel
theorem zd187_73 : decode zxm187.2.1 73 = .ok (.goto (-58), 3) := by decide +kernel
theorem zd187_76 : decode zxm187.2.1 76 = .ok (.iload_n 3, 1) := by decide +kernel
theorem zd187_77 : decode zxm187.2.1 77 = .ok (.ireturn, 1) := by decide +kernel
theorem zt_X_over {x1 : Int} {x2 : Int} {f0 : Int} {g0 : (Int → Int)} {g1 : (Int → Int)} {o : Int} (h : zf_X_over x1 x2 f0 g0 g1 = some o) : zv_Fn z_TB z_cl z_KX zy_X_over zxm187 (1, 60) [.inr 0, .inl x1, .inl x2] [.inl f0] [g0, g1] (some o) [.inl f0] [g0, g1] := zv_meth (K := (z_KF0, z_KC0, z_KL0, z_KT0, [], [], [], none)) (FT := z_FT) (MT := z_MT) (n := 3) zxp187 (z_ks0 _ (fun _ h => List.mem_cons_of_mem _ h) _ _ _ _ (fun j r h _ => by cases h)) (fun _ _ => zs_KX_p) zyw_X_over (fun va F G h => by obtain ⟨rfl, _⟩ := h; rfl) (fun va F G h => by obtain ⟨rfl, _⟩ := h; rfl) rfl fun good va F G hB hret hvret hP => by
  obtain ⟨rfl, rfl, rfl⟩ := hP
  have l0 : ∀ (n : Nat) (x1 : Int) (x2 : Int) (x3 : Int) (x4 : Int) (q : Int), zf_X_over_l0 x1 x2 f0 g0 g1 n x3 x4 = some q → (good 76 [.inr 1000, .inr 1000, .inr 1000, .inl q, .inr 1000] [] [.inl f0] [g0, g1]) → good 15 [.inr 0, .inl x1, .inl x2, .inl x3, .inl x4] [] [.inl f0] [g0, g1] := by
    intro n
    induction n with
    | zero => intro x1 x2 x3 x4 q h; exact absurd (show none = some q from h) (fun h => by cases h)
    | succ n ih =>
      intro x1 x2 x3 x4 q h hK
      replace h : zf_X_over_l0_b x1 x2 f0 g0 g1 (zf_X_over_l0 x1 x2 f0 g0 g1 n) x3 x4 = some q := h
      unfold zf_X_over_l0_b at h
      refine zv_ild hB zd187_15 rfl rfl ?_
      refine zv_con hB zd187_17 rfl ?_
      refine zv_cge hB zd187_19 rfl (fun hc3 => ?_) (fun hc3 => ?_)
      · rw [if_neg (Int.not_lt.mpr hc3)] at h
        have hq := Option.some.inj h
        subst hq
        refine zv_wk hB (L' := [.inr 1000, .inr 1000, .inr 1000, .inl x3, .inr 1000]) (F' := [.inl f0]) ⟨fun (h : zv_is (.inr 1000)) => (Nat.lt_irrefl 1000 h).elim, fun (h : zv_is (.inr 1000)) => (Nat.lt_irrefl 1000 h).elim, fun (h : zv_is (.inr 1000)) => (Nat.lt_irrefl 1000 h).elim, fun _ => rfl, fun (h : zv_is (.inr 1000)) => (Nat.lt_irrefl 1000 h).elim, trivial⟩ ⟨fun _ => rfl, trivial⟩ ?_
        exact hK
      · rw [if_pos hc3] at h
        refine zv_ald hB zd187_22 rfl rfl rfl ?_
        refine zv_getr hB zd187_23 rfl ?_
        refine zv_ild hB zd187_26 rfl rfl ?_
        obtain ⟨r4, hr4, h⟩ := zi_bind h
        refine zv_cv hB (zv_emq (va2 := [.inr 1, .inl x4]) (F := [.inl f0]) (F' := [.inl f0]) (G := [g0, g1]) (G' := [g0, g1]) (ρ := [1]) (φ := [0]) (ψ := []) [some 0] [none, none] zyw_Sky_hasStar zyw_X_over zye_X_over (by decide +kernel) (zt_Sky_hasStar hr4) ⟨⟨_, rfl, fun _ => rfl⟩, trivial⟩ trivial rfl rfl rfl rfl rfl rfl rfl) zd187_28 zxt18 rfl (by decide) (by decide) rfl ?_
        refine zv_zeq hB zd187_31 rfl (fun hc5 => ?_) (fun hc5 => ?_)
        · rw [if_pos hc5] at h
          refine zv_iincw hB zd187_70 rfl rfl ?_
          refine zv_goto hB zd187_73 rfl ?_
          exact ih _ _ _ _ q h hK
        · rw [if_neg hc5] at h
          refine zv_ald hB zd187_34 rfl rfl rfl ?_
          refine zv_getr hB zd187_35 rfl ?_
          refine zv_getr hB zd187_38 rfl ?_
          refine zv_ild hB zd187_41 rfl rfl ?_
          obtain ⟨c6, h⟩ := zi_if h
          refine zv_iald hB zd187_43 rfl rfl (zi_ix_ok c6).1 (zi_ix_ok c6).2 (fun _ _ => ?_)
          refine zv_ild hB zd187_44 rfl rfl ?_
          refine zv_cne hB zd187_45 rfl (fun hc7 => ?_) (fun hc7 => ?_)
          · rw [if_neg hc7] at h
            refine zv_iincw hB zd187_70 rfl rfl ?_
            refine zv_goto hB zd187_73 rfl ?_
            exact ih _ _ _ _ q h hK
          · rw [if_pos hc7] at h
            refine zv_ild hB zd187_48 rfl rfl ?_
            refine zv_con hB zd187_49 rfl ?_
            refine zv_ild hB zd187_50 rfl rfl ?_
            refine zv_ald hB zd187_51 rfl rfl rfl ?_
            refine zv_getr hB zd187_52 rfl ?_
            refine zv_getr hB zd187_55 rfl ?_
            refine zv_ild hB zd187_58 rfl rfl ?_
            refine zv_iald hB zd187_60 rfl rfl (zi_ix_ok c6).1 (zi_ix_ok c6).2 (fun _ _ => ?_)
            refine zv_subw hB zd187_61 ?_
            refine zv_con hB zd187_62 rfl ?_
            obtain ⟨r8, hr8, h⟩ := zi_bind h
            refine zv_cs hB (zv_emq (va2 := [.inl (zi_w (x1 - (g1 x4))), .inl 24]) (F := [.inl f0]) (F' := [.inl f0]) (G := [g0, g1]) (G' := [g0, g1]) (ρ := []) (φ := []) (ψ := []) [none] [none, none] zyw_Math_floorMod zyw_X_over zye_X_over (by decide +kernel) (zt_Math_floorMod hr8) trivial trivial rfl rfl rfl rfl rfl rfl rfl) zd187_64 zxt129 rfl (by decide) (by decide) rfl ?_
            refine zv_shlw hB zd187_67 ?_
            refine zv_orw hB zd187_68 ?_
            refine zv_ist hB zd187_69 rfl rfl rfl ?_
            refine zv_iincw hB zd187_70 rfl rfl ?_
            refine zv_goto hB zd187_73 rfl ?_
            exact ih _ _ _ _ q h hK
  unfold zf_X_over at h
  refine zv_ild hB zd187_0 rfl rfl ?_
  refine zv_ild hB zd187_1 rfl rfl ?_
  obtain ⟨r1, hr1, h⟩ := zi_bind h
  refine zv_cs hB (zv_emq (va2 := [.inl x1, .inl x2]) (F := [.inl f0]) (F' := [.inl f0]) (G := [g0, g1]) (G' := [g0, g1]) (ρ := []) (φ := []) (ψ := []) [none] [none, none] zyw_X_isPlace zyw_X_over zye_X_over (by decide +kernel) (zt_X_isPlace hr1) trivial trivial rfl rfl rfl rfl rfl rfl rfl) zd187_2 zxt16 rfl (by decide) (by decide) rfl ?_
  refine zv_zne hB zd187_5 rfl (fun hc2 => ?_) (fun hc2 => ?_)
  · rw [if_neg hc2] at h
    refine zv_con hB zd187_10 rfl ?_
    refine zv_ist hB zd187_11 rfl rfl rfl ?_
    refine zv_con hB zd187_12 rfl ?_
    refine zv_ist hB zd187_13 rfl rfl rfl ?_
    obtain ⟨q9, hq9, h⟩ := zi_bind h
    refine l0 _ _ _ _ _ q9 hq9 ?_
    show good 76 [.inr 1000, .inr 1000, .inr 1000, .inl q9, .inr 1000] [] [.inl f0] [g0, g1]
    refine zv_ild hB zd187_76 rfl rfl ?_
    have hw := Option.some.inj h
    subst hw
    exact hret _ _ _ _ _ zd187_77 (by trivial) ⟨rfl, rfl, rfl⟩
  · rw [if_pos hc2] at h
    refine zv_con hB zd187_8 rfl ?_
    have hw := Option.some.inj h
    subst hw
    exact hret _ _ _ _ _ zd187_9 (by trivial) ⟨rfl, rfl, rfl⟩
/-! View_hasLinesOf (LStarTales$View;)Z -/
-- names: 0 View('arg', 0), 1 View('arg', 1), 2 (0, 24)(0, 7, 5), 3 (0, 24)(1, 7, 5)
-- fields: ; arrays: g0 = 2, g1 = 3; out: [('ret', None)]
abbrev zy_View_hasLinesOf : zNL := (4, [(0, 7), (1, 7)], [], [(0, 7, 5, 2), (1, 7, 5, 3)], [(2, 0, 24, 0), (3, 0, 24, 1)])
theorem zyw_View_hasLinesOf : zv_wf zy_View_hasLinesOf = true := by decide +kernel
theorem zye_View_hasLinesOf : zv_ek2 zy_View_hasLinesOf = true := by decide +kernel
def zf_View_hasLinesOf_l0_b (g0 : (Int → Int)) (g1 : (Int → Int)) (rec : Int → Option (((Unit) ⊕ (Int)))) (x2 : Int) : Option (((Unit) ⊕ (Int))) := if x2 < 24 then (cond (zi_ix x2 24) (if (g0 x2) = (g1 x2) then (rec (zi_w (x2 + 1))) else (some (.inr 0))) none) else (some (.inl ()))
def zf_View_hasLinesOf_l0 (g0 : (Int → Int)) (g1 : (Int → Int)) : Nat → Int → Option (((Unit) ⊕ (Int)))
  | 0, _ => none
  | n + 1, x2 => zf_View_hasLinesOf_l0_b g0 g1 (zf_View_hasLinesOf_l0 g0 g1 n) x2
def zf_View_hasLinesOf (g0 : (Int → Int)) (g1 : (Int → Int)) : Option (Int) := (zf_View_hasLinesOf_l0 g0 g1 zi_fu 0).bind fun q4 => Sum.elim (fun e5 => (some 1)) (fun w6 => some w6) q4
theorem zd189_0 : decode zxm189.2.1 0 = .ok (.iconst 0, 1) := by decide +kernel
theorem zd189_1 : decode zxm189.2.1 1 = .ok (.istore_n 2, 1) := by decide +kernel
theorem zd189_2 : decode zxm189.2.1 2 = .ok (.iload_n 2, 1) := by decide +kernel
theorem zd189_3 : decode zxm189.2.1 3 = .ok (.bipush 24, 2) := by decide +kernel
theorem zd189_5 : decode zxm189.2.1 5 = .ok (.if_icmp .ge 26, 3) := by decide +kernel
theorem zd189_8 : decode zxm189.2.1 8 = .ok (.aload_n 0, 1) := by decide +kernel
theorem zd189_9 : decode zxm189.2.1 9 = .ok (.getfield 21, 3) := by decide +kernel
theorem zd189_12 : decode zxm189.2.1 12 = .ok (.iload_n 2, 1) := by decide +kernel
theorem zd189_13 : decode zxm189.2.1 13 = .ok (.iaload, 1) := by decide +kernel
theorem zd189_14 : decode zxm189.2.1 14 = .ok (.aload_n 1, 1) := by decide +kernel
theorem zd189_15 : decode zxm189.2.1 15 = .ok (.getfield 21, 3) := by decide +kernel
theorem zd189_18 : decode zxm189.2.1 18 = .ok (.iload_n 2, 1) := by decide +kernel
theorem zd189_19 : decode zxm189.2.1 19 = .ok (.iaload, 1) := by decide +kernel
theorem zd189_20 : decode zxm189.2.1 20 = .ok (.if_icmp .eq 5, 3) := by decide +kernel
theorem zd189_23 : decode zxm189.2.1 23 = .ok (.iconst 0, 1) := by decide +kernel
theorem zd189_24 : decode zxm189.2.1 24 = .ok (.ireturn, 1) := by decide +kernel
theorem zd189_25 : decode zxm189.2.1 25 = .ok (.iinc 2 1, 3) := by decide +kernel
theorem zd189_28 : decode zxm189.2.1 28 = .ok (.goto (-26), 3) := by decide +kernel
theorem zd189_31 : decode zxm189.2.1 31 = .ok (.iconst 1, 1) := by decide +kernel
theorem zd189_32 : decode zxm189.2.1 32 = .ok (.ireturn, 1) := by decide +kernel
theorem zt_View_hasLinesOf {g0 : (Int → Int)} {g1 : (Int → Int)} {o : Int} (h : zf_View_hasLinesOf g0 g1 = some o) : zv_Fn z_TB z_cl z_KX zy_View_hasLinesOf zxm189 (0, 0) [.inr 0, .inr 1] [] [g0, g1] (some o) [] [g0, g1] := zv_meth (K := (z_KF11, z_KC11, z_KL11, z_KT11, [], [], [], none)) (FT := z_FT) (MT := z_MT) (n := 2) zxp189 (z_ks11 _ (fun _ h => List.mem_cons_of_mem _ h) _ _ _ _ (fun j r h _ => by cases h)) (fun _ _ => zs_KX_p) zyw_View_hasLinesOf (fun va F G h => by obtain ⟨rfl, _⟩ := h; rfl) (fun va F G h => by obtain ⟨rfl, _⟩ := h; rfl) rfl fun good va F G hB hret hvret hP => by
  obtain ⟨rfl, rfl, rfl⟩ := hP
  have l0 : ∀ (n : Nat) (x2 : Int) (q : ((Unit) ⊕ (Int))), zf_View_hasLinesOf_l0 g0 g1 n x2 = some q → (Sum.elim (fun e : Unit => good 31 [.inr 1000, .inr 1000, .inr 1000] [] [] [g0, g1]) (fun w : Int => w = o) q) → good 2 [.inr 0, .inr 1, .inl x2] [] [] [g0, g1] := by
    intro n
    induction n with
    | zero => intro x2 q h; exact absurd (show none = some q from h) (fun h => by cases h)
    | succ n ih =>
      intro x2 q h hK
      replace h : zf_View_hasLinesOf_l0_b g0 g1 (zf_View_hasLinesOf_l0 g0 g1 n) x2 = some q := h
      unfold zf_View_hasLinesOf_l0_b at h
      refine zv_ild hB zd189_2 rfl rfl ?_
      refine zv_con hB zd189_3 rfl ?_
      refine zv_cge hB zd189_5 rfl (fun hc1 => ?_) (fun hc1 => ?_)
      · rw [if_neg (Int.not_lt.mpr hc1)] at h
        have hq := Option.some.inj h
        subst hq
        refine zv_wk hB (L' := [.inr 1000, .inr 1000, .inr 1000]) (F' := []) ⟨fun (h : zv_is (.inr 1000)) => (Nat.lt_irrefl 1000 h).elim, fun (h : zv_is (.inr 1000)) => (Nat.lt_irrefl 1000 h).elim, fun (h : zv_is (.inr 1000)) => (Nat.lt_irrefl 1000 h).elim, trivial⟩ trivial ?_
        exact hK
      · rw [if_pos hc1] at h
        refine zv_ald hB zd189_8 rfl rfl rfl ?_
        refine zv_getr hB zd189_9 rfl ?_
        refine zv_ild hB zd189_12 rfl rfl ?_
        obtain ⟨c2, h⟩ := zi_if h
        refine zv_iald hB zd189_13 rfl rfl (zi_ix_ok c2).1 (zi_ix_ok c2).2 (fun _ _ => ?_)
        refine zv_ald hB zd189_14 rfl rfl rfl ?_
        refine zv_getr hB zd189_15 rfl ?_
        refine zv_ild hB zd189_18 rfl rfl ?_
        refine zv_iald hB zd189_19 rfl rfl (zi_ix_ok c2).1 (zi_ix_ok c2).2 (fun _ _ => ?_)
        refine zv_ceq hB zd189_20 rfl (fun hc3 => ?_) (fun hc3 => ?_)
        · rw [if_pos hc3] at h
          refine zv_iincw hB zd189_25 rfl rfl ?_
          refine zv_goto hB zd189_28 rfl ?_
          exact ih _ q h hK
        · rw [if_neg hc3] at h
          refine zv_con hB zd189_23 rfl ?_
          have hw : 0 = o := zi_rk (Option.some.inj h) hK
          subst hw
          exact hret _ _ _ _ _ zd189_24 (by constructor <;> decide) ⟨rfl, rfl, rfl⟩
  unfold zf_View_hasLinesOf at h
  refine zv_con hB zd189_0 rfl ?_
  refine zv_ist hB zd189_1 rfl rfl rfl ?_
  obtain ⟨q4, hq4, h⟩ := zi_bind h
  refine l0 _ _ q4 hq4 ?_
  rcases q4 with e5 | w6
  · replace h := zi_sl h
    show good 31 [.inr 1000, .inr 1000, .inr 1000] [] [] [g0, g1]
    refine zv_con hB zd189_31 rfl ?_
    have hw := Option.some.inj h
    subst hw
    exact hret _ _ _ _ _ zd189_32 (by constructor <;> decide) ⟨rfl, rfl, rfl⟩
  · exact Option.some.inj h
/-! X_home (II)I -/
-- names: 0 StarTales('arg', 0), 1 View(0, 0, 12), 2 Sky(0, 0, 0), 3 Law(0, 0, 7), 4 (0, 24)(1, 7, 8), 5 (0, 13)(3, 4, 12), 6 (0, 24)(2, 1, 1), 7 (0, 24)(2, 1, 2), 8 (0, 24)(2, 1, 3), 9 (0, 14)(3, 4, 3), 10 (0, 14)(3, 4, 5), 11 (0, 14)(3, 4, 6), 12 (0, 200)(3, 4, 0), 13 (0, 40)(3, 4, 13), 14 (0, 200)(3, 4, 1), 15 (0, 24)(1, 7, 5), 16 (0, 24)(1, 7, 9), 17 Sky(0, 0, 2), 18 (0, 24)(17, 1, 1), 19 (0, 24)(17, 1, 2), 20 (0, 24)(17, 1, 3), 21 (0, 24)(2, 1, 4), 22 (0, 24)(17, 1, 4), 23 (0, 24)(2, 1, 5), 24 (0, 24)(17, 1, 5), 25 View(0, 0, 13), 26 (0, 24)(25, 7, 8), 27 (0, 24)(25, 7, 5), 28 (0, 24)(25, 7, 9)
-- fields: f0 = 0.ruling_, f1 = 1.sky_, f2 = 1.law_, f3 = 1.starsAsked_, f4 = 1.x_, f5 = 1.y_, f6 = 2.hour_, f7 = 2.night_, f8 = 1.shown_, f9 = 2.told_, f10 = 2.sightColumns_, f11 = 2.sightRows_, f12 = 2.clouds_, f13 = 3.tellsSeen_, f14 = 1.starsHold_, f15 = 3.clauses_, f16 = 3.answer_, f17 = 3.seenByPlace_, f18 = 3.tellsLines_, f19 = 3.linesByPlace_, f20 = 17.told_, f21 = 17.hour_, f22 = 17.night_, f23 = 17.clouds_, f24 = 17.sightColumns_, f25 = 17.sightRows_, f26 = 2.chance_, f27 = 17.chance_, f28 = 25.sky_, f29 = 25.law_, f30 = 25.starsAsked_, f31 = 25.x_, f32 = 25.y_, f33 = 25.shown_, f34 = 25.starsHold_; arrays: g0 = 4, g1 = 5, g2 = 6, g3 = 7, g4 = 8, g5 = 9, g6 = 10, g7 = 11, g8 = 12, g9 = 13, g10 = 14, g11 = 15, g12 = 16, g13 = 18, g14 = 19, g15 = 20, g16 = 21, g17 = 22, g18 = 23, g19 = 24, g20 = 26, g21 = 27, g22 = 28; out: [('ret', None), ('f', 3), ('f', 4), ('f', 5), ('f', 8), ('f', 14), ('f', 16), ('f', 20), ('f', 21), ('f', 22), ('f', 23), ('f', 24), ('f', 25), ('f', 27), ('f', 30), ('f', 31), ('f', 32), ('f', 33), ('f', 34), ('g', 0), ('g', 1), ('g', 9), ('g', 11), ('g', 12), ('g', 13), ('g', 14), ('g', 15), ('g', 17), ('g', 19), ('g', 20), ('g', 21), ('g', 22)]
abbrev zy_X_home : zNL := (29, [(0, 0), (1, 7), (2, 1), (3, 4), (17, 1), (25, 7)], [(0, 0, 7, 0), (1, 7, 0, 1), (1, 7, 1, 2), (1, 7, 6, 3), (1, 7, 2, 4), (1, 7, 3, 5), (2, 1, 6, 6), (2, 1, 7, 7), (1, 7, 4, 8), (2, 1, 0, 9), (2, 1, 9, 10), (2, 1, 10, 11), (2, 1, 8, 12), (3, 4, 8, 13), (1, 7, 7, 14), (3, 4, 7, 15), (3, 4, 14, 16), (3, 4, 10, 17), (3, 4, 9, 18), (3, 4, 11, 19), (17, 1, 0, 20), (17, 1, 6, 21), (17, 1, 7, 22), (17, 1, 8, 23), (17, 1, 9, 24), (17, 1, 10, 25), (2, 1, 11, 26), (17, 1, 11, 27), (25, 7, 0, 28), (25, 7, 1, 29), (25, 7, 6, 30), (25, 7, 2, 31), (25, 7, 3, 32), (25, 7, 4, 33), (25, 7, 7, 34)], [(0, 0, 12, 1), (0, 0, 0, 2), (1, 7, 8, 4), (3, 4, 12, 5), (2, 1, 1, 6), (2, 1, 2, 7), (2, 1, 3, 8), (3, 4, 3, 9), (3, 4, 5, 10), (3, 4, 6, 11), (3, 4, 0, 12), (3, 4, 13, 13), (3, 4, 1, 14), (1, 7, 5, 15), (1, 7, 9, 16), (0, 0, 2, 17), (17, 1, 1, 18), (17, 1, 2, 19), (17, 1, 3, 20), (2, 1, 4, 21), (17, 1, 4, 22), (2, 1, 5, 23), (17, 1, 5, 24), (0, 0, 13, 25), (25, 7, 8, 26), (25, 7, 5, 27), (25, 7, 9, 28)], [(4, 0, 24, 0), (5, 0, 13, 1), (6, 0, 24, 2), (7, 0, 24, 3), (8, 0, 24, 4), (9, 0, 14, 5), (10, 0, 14, 6), (11, 0, 14, 7), (12, 0, 200, 8), (13, 0, 40, 9), (14, 0, 200, 10), (15, 0, 24, 11), (16, 0, 24, 12), (18, 0, 24, 13), (19, 0, 24, 14), (20, 0, 24, 15), (21, 0, 24, 16), (22, 0, 24, 17), (23, 0, 24, 18), (24, 0, 24, 19), (26, 0, 24, 20), (27, 0, 24, 21), (28, 0, 24, 22)])
theorem zyw_X_home : zv_wf zy_X_home = true := by decide +kernel
theorem zye_X_home : zv_ek2 zy_X_home = true := by decide +kernel
def zf_X_home_l0_b (x1 : Int) (x2 : Int) (f3 : Int) (f4 : Int) (f5 : Int) (f8 : Int) (f13 : Int) (f14 : Int) (f15 : Int) (f17 : Int) (f18 : Int) (f19 : Int) (f20 : Int) (f21 : Int) (f23 : Int) (f24 : Int) (f25 : Int) (f27 : Int) (g0 : (Int → Int)) (g5 : (Int → Int)) (g6 : (Int → Int)) (g7 : (Int → Int)) (g8 : (Int → Int)) (g10 : (Int → Int)) (g11 : (Int → Int)) (g12 : (Int → Int)) (g15 : (Int → Int)) (g17 : (Int → Int)) (g19 : (Int → Int)) (rec : Int → Int → Int → Int → Int → Int → Int → Int → (Int → Int) → (Int → Int) → (Int → Int) → (Int → Int) → (Int → Int) → (Int → Int) → (Int → Int) → Option (((Int × Int × Int × Int × Int × Int × Int × (Int → Int) × (Int → Int) × (Int → Int) × (Int → Int) × (Int → Int) × (Int → Int) × (Int → Int)) ⊕ (Int × Int × Int × Int × Int × Int × Int × Int × Int × Int × Int × Int × Int × Int × Int × Int × Int × Int × Int × (Int → Int) × (Int → Int) × (Int → Int) × (Int → Int) × (Int → Int) × (Int → Int) × (Int → Int) × (Int → Int) × (Int → Int) × (Int → Int) × (Int → Int) × (Int → Int) × (Int → Int))))) (x3 : Int) (f16 : Int) (f22 : Int) (f30 : Int) (f31 : Int) (f32 : Int) (f33 : Int) (f34 : Int) (g1 : (Int → Int)) (g9 : (Int → Int)) (g13 : (Int → Int)) (g14 : (Int → Int)) (g20 : (Int → Int)) (g21 : (Int → Int)) (g22 : (Int → Int)) : Option (((Int × Int × Int × Int × Int × Int × Int × (Int → Int) × (Int → Int) × (Int → Int) × (Int → Int) × (Int → Int) × (Int → Int) × (Int → Int)) ⊕ (Int × Int × Int × Int × Int × Int × Int × Int × Int × Int × Int × Int × Int × Int × Int × Int × Int × Int × Int × (Int → Int) × (Int → Int) × (Int → Int) × (Int → Int) × (Int → Int) × (Int → Int) × (Int → Int) × (Int → Int) × (Int → Int) × (Int → Int) × (Int → Int) × (Int → Int) × (Int → Int)))) := if 60 < x3 then (some (.inl (f16, f22, f30, f31, f32, f33, f34, g1, g9, g13, g14, g20, g21, g22))) else ((zf_Sky_beginNight f22 g13 g17 g14 g19).bind fun r6 => ((zf_View_open f30 g20).bind fun r7 => ((zf_View_look x1 x2 f31 f32 f21 r6.1 f33 f20 f24 f25 f23 f13 r7.1 f34 f15 f16 f17 g1 r6.2.1 r6.2.2 g15 g5 g6 g7 g8 g9 g10).bind fun r8 => (if r8.2.2.1 = f8 then ((zf_View_draw f18 r8.1 r8.2.1 f21 r6.1 r8.2.2.1 f15 r8.2.2.2.2.2.1 f19 g21 r8.2.2.2.2.2.2.1 r7.2 g22 g15 r6.2.2 r6.2.1 g5 g6 g7 g8 r8.2.2.2.2.2.2.2 g10).bind fun r10 => ((zf_View_hasLinesOf r10.2.2.2.1 g11).bind fun r11 => (if r11 = 0 then (rec (zi_w (x3 + 1)) r10.2.2.1 r6.1 r8.2.2.2.1 r10.1 r10.2.1 r8.2.2.1 r8.2.2.2.2.1 r10.2.2.2.2.1 r10.2.2.2.2.2.2.2 r6.2.1 r6.2.2 r10.2.2.2.2.2.1 r10.2.2.2.1 r10.2.2.2.2.2.2.1) else (some (.inr (x3, f3, f4, f5, f8, f14, r10.2.2.1, f20, f21, r6.1, f23, f24, f25, f27, r8.2.2.2.1, r10.1, r10.2.1, r8.2.2.1, r8.2.2.2.2.1, g0, r10.2.2.2.2.1, r10.2.2.2.2.2.2.2, g11, g12, r6.2.1, r6.2.2, g15, g17, g19, r10.2.2.2.2.2.1, r10.2.2.2.1, r10.2.2.2.2.2.2.1)))))) else (rec (zi_w (x3 + 1)) r8.2.2.2.2.2.1 r6.1 r8.2.2.2.1 r8.1 r8.2.1 r8.2.2.1 r8.2.2.2.2.1 r8.2.2.2.2.2.2.1 r8.2.2.2.2.2.2.2 r6.2.1 r6.2.2 r7.2 g21 g22)))))
def zf_X_home_l0 (x1 : Int) (x2 : Int) (f3 : Int) (f4 : Int) (f5 : Int) (f8 : Int) (f13 : Int) (f14 : Int) (f15 : Int) (f17 : Int) (f18 : Int) (f19 : Int) (f20 : Int) (f21 : Int) (f23 : Int) (f24 : Int) (f25 : Int) (f27 : Int) (g0 : (Int → Int)) (g5 : (Int → Int)) (g6 : (Int → Int)) (g7 : (Int → Int)) (g8 : (Int → Int)) (g10 : (Int → Int)) (g11 : (Int → Int)) (g12 : (Int → Int)) (g15 : (Int → Int)) (g17 : (Int → Int)) (g19 : (Int → Int)) : Nat → Int → Int → Int → Int → Int → Int → Int → Int → (Int → Int) → (Int → Int) → (Int → Int) → (Int → Int) → (Int → Int) → (Int → Int) → (Int → Int) → Option (((Int × Int × Int × Int × Int × Int × Int × (Int → Int) × (Int → Int) × (Int → Int) × (Int → Int) × (Int → Int) × (Int → Int) × (Int → Int)) ⊕ (Int × Int × Int × Int × Int × Int × Int × Int × Int × Int × Int × Int × Int × Int × Int × Int × Int × Int × Int × (Int → Int) × (Int → Int) × (Int → Int) × (Int → Int) × (Int → Int) × (Int → Int) × (Int → Int) × (Int → Int) × (Int → Int) × (Int → Int) × (Int → Int) × (Int → Int) × (Int → Int))))
  | 0, _, _, _, _, _, _, _, _, _, _, _, _, _, _, _ => none
  | n + 1, x3, f16, f22, f30, f31, f32, f33, f34, g1, g9, g13, g14, g20, g21, g22 => zf_X_home_l0_b x1 x2 f3 f4 f5 f8 f13 f14 f15 f17 f18 f19 f20 f21 f23 f24 f25 f27 g0 g5 g6 g7 g8 g10 g11 g12 g15 g17 g19 (zf_X_home_l0 x1 x2 f3 f4 f5 f8 f13 f14 f15 f17 f18 f19 f20 f21 f23 f24 f25 f27 g0 g5 g6 g7 g8 g10 g11 g12 g15 g17 g19 n) x3 f16 f22 f30 f31 f32 f33 f34 g1 g9 g13 g14 g20 g21 g22
def zf_X_home (x1 : Int) (x2 : Int) (f3 : Int) (f4 : Int) (f5 : Int) (f6 : Int) (f7 : Int) (f8 : Int) (f9 : Int) (f10 : Int) (f11 : Int) (f12 : Int) (f13 : Int) (f14 : Int) (f15 : Int) (f16 : Int) (f17 : Int) (f18 : Int) (f19 : Int) (f20 : Int) (f21 : Int) (f22 : Int) (f23 : Int) (f24 : Int) (f25 : Int) (f26 : Int) (f27 : Int) (f30 : Int) (f31 : Int) (f32 : Int) (f33 : Int) (f34 : Int) (g0 : (Int → Int)) (g1 : (Int → Int)) (g2 : (Int → Int)) (g3 : (Int → Int)) (g4 : (Int → Int)) (g5 : (Int → Int)) (g6 : (Int → Int)) (g7 : (Int → Int)) (g8 : (Int → Int)) (g9 : (Int → Int)) (g10 : (Int → Int)) (g11 : (Int → Int)) (g12 : (Int → Int)) (g13 : (Int → Int)) (g14 : (Int → Int)) (g15 : (Int → Int)) (g16 : (Int → Int)) (g17 : (Int → Int)) (g18 : (Int → Int)) (g19 : (Int → Int)) (g20 : (Int → Int)) (g21 : (Int → Int)) (g22 : (Int → Int)) : Option (Int × Int × Int × Int × Int × Int × Int × Int × Int × Int × Int × Int × Int × Int × Int × Int × Int × Int × Int × (Int → Int) × (Int → Int) × (Int → Int) × (Int → Int) × (Int → Int) × (Int → Int) × (Int → Int) × (Int → Int) × (Int → Int) × (Int → Int) × (Int → Int) × (Int → Int) × (Int → Int)) := (zf_X_isPlace x1 x2).bind fun r1 => (if r1 = 0 then (some ((-1), f3, f4, f5, f8, f14, f16, f20, f21, f22, f23, f24, f25, f27, f30, f31, f32, f33, f34, g0, g1, g9, g11, g12, g13, g14, g15, g17, g19, g20, g21, g22)) else ((zf_X_lookAndDraw x1 x2 f3 f4 f5 f6 f7 f8 f9 f10 f11 f12 f13 f14 f15 f16 f17 f18 f19 g0 g1 g2 g3 g4 g5 g6 g7 g8 g9 g10 g11 g12).bind fun r3 => ((zf_Sky_copyFrom f9 f20 f6 f21 f7 f22 f12 f23 f10 f24 f11 f25 f26 f27 g2 g13 g3 g14 g4 g15 g16 g17 g18 g19).bind fun r4 => ((zf_X_home_l0 x1 x2 r3.1 r3.2.1 r3.2.2.1 r3.2.2.2.1 f13 r3.2.2.2.2.1 f15 f17 f18 f19 r4.1 r4.2.1 r4.2.2.2.1 r4.2.2.2.2.1 r4.2.2.2.2.2.1 r4.2.2.2.2.2.2.1 r3.2.2.2.2.2.2.1 g5 g6 g7 g8 g10 r3.2.2.2.2.2.2.2.2.2.1 r3.2.2.2.2.2.2.2.2.2.2 r4.2.2.2.2.2.2.2.2.2.1 r4.2.2.2.2.2.2.2.2.2.2.1 r4.2.2.2.2.2.2.2.2.2.2.2 zi_fu 1 r3.2.2.2.2.2.1 r4.2.2.1 f30 f31 f32 f33 f34 r3.2.2.2.2.2.2.2.1 r3.2.2.2.2.2.2.2.2.1 r4.2.2.2.2.2.2.2.1 r4.2.2.2.2.2.2.2.2.1 g20 g21 g22).bind fun q13 => Sum.elim (fun e14 => (some ((-2), r3.1, r3.2.1, r3.2.2.1, r3.2.2.2.1, r3.2.2.2.2.1, e14.1, r4.1, r4.2.1, e14.2.1, r4.2.2.2.1, r4.2.2.2.2.1, r4.2.2.2.2.2.1, r4.2.2.2.2.2.2.1, e14.2.2.1, e14.2.2.2.1, e14.2.2.2.2.1, e14.2.2.2.2.2.1, e14.2.2.2.2.2.2.1, r3.2.2.2.2.2.2.1, e14.2.2.2.2.2.2.2.1, e14.2.2.2.2.2.2.2.2.1, r3.2.2.2.2.2.2.2.2.2.1, r3.2.2.2.2.2.2.2.2.2.2, e14.2.2.2.2.2.2.2.2.2.1, e14.2.2.2.2.2.2.2.2.2.2.1, r4.2.2.2.2.2.2.2.2.2.1, r4.2.2.2.2.2.2.2.2.2.2.1, r4.2.2.2.2.2.2.2.2.2.2.2, e14.2.2.2.2.2.2.2.2.2.2.2.1, e14.2.2.2.2.2.2.2.2.2.2.2.2.1, e14.2.2.2.2.2.2.2.2.2.2.2.2.2))) (fun w15 => some w15) q13))))
theorem zd188_0 : decode zxm188.2.1 0 = .ok (.iload_n 1, 1) := by decide +kernel
theorem zd188_1 : decode zxm188.2.1 1 = .ok (.iload_n 2, 1) := by decide +kernel
theorem zd188_2 : decode zxm188.2.1 2 = .ok (.invokestatic 130, 3) := by decide +kernel
theorem zd188_5 : decode zxm188.2.1 5 = .ok (.ifCond .ne 5, 3) := by decide +kernel
theorem zd188_8 : decode zxm188.2.1 8 = .ok (.iconst (-1), 1) := by decide +kernel
theorem zd188_9 : decode zxm188.2.1 9 = .ok (.ireturn, 1) := by decide +kernel
theorem zd188_10 : decode zxm188.2.1 10 = .ok (.aload_n 0, 1) := by decide +kernel
theorem zd188_11 : decode zxm188.2.1 11 = .ok (.aload_n 0, 1) := by decide +kernel
theorem zd188_12 : decode zxm188.2.1 12 = .ok (.getfield 81, 3) := by decide +kernel
theorem zd188_15 : decode zxm188.2.1 15 = .ok (.iload_n 1, 1) := by decide +kernel
theorem zd188_16 : decode zxm188.2.1 16 = .ok (.iload_n 2, 1) := by decide +kernel
theorem zd188_17 : decode zxm188.2.1 17 = .ok (.invokevirtual 221, 3) := by decide +kernel
theorem zd188_20 : decode zxm188.2.1 20 = .ok (.aload_n 0, 1) := by decide +kernel
theorem zd188_21 : decode zxm188.2.1 21 = .ok (.getfield 19, 3) := by decide +kernel
theorem zd188_24 : decode zxm188.2.1 24 = .ok (.aload_n 0, 1) := by decide +kernel
theorem zd188_25 : decode zxm188.2.1 25 = .ok (.getfield 10, 3) := by decide +kernel
theorem zd188_28 : decode zxm188.2.1 28 = .ok (.invokevirtual 273, 3) := by decide +kernel
theorem zd188_31 : decode zxm188.2.1 31 = .ok (.iconst 1, 1) := by decide +kernel
theorem zd188_32 : decode zxm188.2.1 32 = .ok (.istore_n 3, 1) := by decide +kernel
theorem zd188_33 : decode zxm188.2.1 33 = .ok (.iload_n 3, 1) := by decide +kernel
theorem zd188_34 : decode zxm188.2.1 34 = .ok (.bipush 60, 2) := by decide +kernel
theorem zd188_36 : decode zxm188.2.1 36 = .ok (.if_icmp .gt 80, 3) := by decide +kernel
theorem zd188_39 : decode zxm188.2.1 39 = .ok (.aload_n 0, 1) := by decide +kernel
theorem zd188_40 : decode zxm188.2.1 40 = .ok (.getfield 19, 3) := by decide +kernel
theorem zd188_43 : decode zxm188.2.1 43 = .ok (.invokevirtual 400, 3) := by decide +kernel
theorem zd188_46 : decode zxm188.2.1 46 = .ok (.aload_n 0, 1) := by decide +kernel
theorem zd188_47 : decode zxm188.2.1 47 = .ok (.getfield 85, 3) := by decide +kernel
theorem zd188_50 : decode zxm188.2.1 50 = .ok (.aload_n 0, 1) := by decide +kernel
theorem zd188_51 : decode zxm188.2.1 51 = .ok (.getfield 19, 3) := by decide +kernel
theorem zd188_54 : decode zxm188.2.1 54 = .ok (.aload_n 0, 1) := by decide +kernel
theorem zd188_55 : decode zxm188.2.1 55 = .ok (.getfield 46, 3) := by decide +kernel
theorem zd188_58 : decode zxm188.2.1 58 = .ok (.invokevirtual 211, 3) := by decide +kernel
theorem zd188_61 : decode zxm188.2.1 61 = .ok (.aload_n 0, 1) := by decide +kernel
theorem zd188_62 : decode zxm188.2.1 62 = .ok (.getfield 85, 3) := by decide +kernel
theorem zd188_65 : decode zxm188.2.1 65 = .ok (.iload_n 1, 1) := by decide +kernel
theorem zd188_66 : decode zxm188.2.1 66 = .ok (.iload_n 2, 1) := by decide +kernel
theorem zd188_67 : decode zxm188.2.1 67 = .ok (.invokevirtual 214, 3) := by decide +kernel
theorem zd188_70 : decode zxm188.2.1 70 = .ok (.aload_n 0, 1) := by decide +kernel
theorem zd188_71 : decode zxm188.2.1 71 = .ok (.getfield 85, 3) := by decide +kernel
theorem zd188_74 : decode zxm188.2.1 74 = .ok (.getfield 218, 3) := by decide +kernel
theorem zd188_77 : decode zxm188.2.1 77 = .ok (.aload_n 0, 1) := by decide +kernel
theorem zd188_78 : decode zxm188.2.1 78 = .ok (.getfield 81, 3) := by decide +kernel
theorem zd188_81 : decode zxm188.2.1 81 = .ok (.getfield 218, 3) := by decide +kernel
theorem zd188_84 : decode zxm188.2.1 84 = .ok (.if_icmp .ne 26, 3) := by decide +kernel
theorem zd188_87 : decode zxm188.2.1 87 = .ok (.aload_n 0, 1) := by decide +kernel
theorem zd188_88 : decode zxm188.2.1 88 = .ok (.getfield 85, 3) := by decide +kernel
theorem zd188_91 : decode zxm188.2.1 91 = .ok (.invokevirtual 403, 3) := by decide +kernel
theorem zd188_94 : decode zxm188.2.1 94 = .ok (.aload_n 0, 1) := by decide +kernel
theorem zd188_95 : decode zxm188.2.1 95 = .ok (.getfield 85, 3) := by decide +kernel
theorem zd188_98 : decode zxm188.2.1 98 = .ok (.aload_n 0, 1) := by decide +kernel
theorem zd188_99 : decode zxm188.2.1 99 = .ok (.getfield 81, 3) := by decide +kernel
theorem zd188_102 : decode zxm188.2.1 102 = .ok (.invokevirtual 406, 3) := by decide +kernel
theorem zd188_105 : decode zxm188.2.1 105 = .ok (.ifCond .eq 5, 3) := by decide +kernel
theorem zd188_108 : decode zxm188.2.1 108 = .ok (.iload_n 3, 1) := by decide +kernel
theorem zd188_109 : decode zxm188.2.1 109 = .ok (.ireturn, 1) := by decide +kernel
theorem zd188_110 : decode zxm188.2.1 110 = .ok (.iinc 3 1, 3) := by decide +kernel
theorem zd188_113 : decode zxm188.2.1 113 = .ok (.goto (-80), 3) := by decide +kernel
theorem zd188_116 : decode zxm188.2.1 116 = .ok (.bipush (-2), 2) := by decide +kernel
theorem zd188_118 : decode zxm188.2.1 118 = .ok (.ireturn, 1) := by decide +kernel
theorem zt_X_home {x1 : Int} {x2 : Int} {f3 : Int} {f4 : Int} {f5 : Int} {f6 : Int} {f7 : Int} {f8 : Int} {f9 : Int} {f10 : Int} {f11 : Int} {f12 : Int} {f13 : Int} {f14 : Int} {f15 : Int} {f16 : Int} {f17 : Int} {f18 : Int} {f19 : Int} {f20 : Int} {f21 : Int} {f22 : Int} {f23 : Int} {f24 : Int} {f25 : Int} {f26 : Int} {f27 : Int} {f30 : Int} {f31 : Int} {f32 : Int} {f33 : Int} {f34 : Int} {g0 : (Int → Int)} {g1 : (Int → Int)} {g2 : (Int → Int)} {g3 : (Int → Int)} {g4 : (Int → Int)} {g5 : (Int → Int)} {g6 : (Int → Int)} {g7 : (Int → Int)} {g8 : (Int → Int)} {g9 : (Int → Int)} {g10 : (Int → Int)} {g11 : (Int → Int)} {g12 : (Int → Int)} {g13 : (Int → Int)} {g14 : (Int → Int)} {g15 : (Int → Int)} {g16 : (Int → Int)} {g17 : (Int → Int)} {g18 : (Int → Int)} {g19 : (Int → Int)} {g20 : (Int → Int)} {g21 : (Int → Int)} {g22 : (Int → Int)} {o : Int × Int × Int × Int × Int × Int × Int × Int × Int × Int × Int × Int × Int × Int × Int × Int × Int × Int × Int × (Int → Int) × (Int → Int) × (Int → Int) × (Int → Int) × (Int → Int) × (Int → Int) × (Int → Int) × (Int → Int) × (Int → Int) × (Int → Int) × (Int → Int) × (Int → Int) × (Int → Int)} (h : zf_X_home x1 x2 f3 f4 f5 f6 f7 f8 f9 f10 f11 f12 f13 f14 f15 f16 f17 f18 f19 f20 f21 f22 f23 f24 f25 f26 f27 f30 f31 f32 f33 f34 g0 g1 g2 g3 g4 g5 g6 g7 g8 g9 g10 g11 g12 g13 g14 g15 g16 g17 g18 g19 g20 g21 g22 = some o) : zv_Fn z_TB z_cl z_KX zy_X_home zxm188 (6, 360) [.inr 0, .inl x1, .inl x2] [.inr 3, .inr 1000, .inr 1000, .inl f3, .inl f4, .inl f5, .inl f6, .inl f7, .inl f8, .inl f9, .inl f10, .inl f11, .inl f12, .inl f13, .inl f14, .inl f15, .inl f16, .inl f17, .inl f18, .inl f19, .inl f20, .inl f21, .inl f22, .inl f23, .inl f24, .inl f25, .inl f26, .inl f27, .inr 1000, .inr 1000, .inl f30, .inl f31, .inl f32, .inl f33, .inl f34] [g0, g1, g2, g3, g4, g5, g6, g7, g8, g9, g10, g11, g12, g13, g14, g15, g16, g17, g18, g19, g20, g21, g22] (some o.1) [.inr 3, .inr 1000, .inr 1000, .inl o.2.1, .inl o.2.2.1, .inl o.2.2.2.1, .inl f6, .inl f7, .inl o.2.2.2.2.1, .inl f9, .inl f10, .inl f11, .inl f12, .inl f13, .inl o.2.2.2.2.2.1, .inl f15, .inl o.2.2.2.2.2.2.1, .inl f17, .inl f18, .inl f19, .inl o.2.2.2.2.2.2.2.1, .inl o.2.2.2.2.2.2.2.2.1, .inl o.2.2.2.2.2.2.2.2.2.1, .inl o.2.2.2.2.2.2.2.2.2.2.1, .inl o.2.2.2.2.2.2.2.2.2.2.2.1, .inl o.2.2.2.2.2.2.2.2.2.2.2.2.1, .inl f26, .inl o.2.2.2.2.2.2.2.2.2.2.2.2.2.1, .inr 1000, .inr 1000, .inl o.2.2.2.2.2.2.2.2.2.2.2.2.2.2.1, .inl o.2.2.2.2.2.2.2.2.2.2.2.2.2.2.2.1, .inl o.2.2.2.2.2.2.2.2.2.2.2.2.2.2.2.2.1, .inl o.2.2.2.2.2.2.2.2.2.2.2.2.2.2.2.2.2.1, .inl o.2.2.2.2.2.2.2.2.2.2.2.2.2.2.2.2.2.2.1] [o.2.2.2.2.2.2.2.2.2.2.2.2.2.2.2.2.2.2.2.1, o.2.2.2.2.2.2.2.2.2.2.2.2.2.2.2.2.2.2.2.2.1, g2, g3, g4, g5, g6, g7, g8, o.2.2.2.2.2.2.2.2.2.2.2.2.2.2.2.2.2.2.2.2.2.1, g10, o.2.2.2.2.2.2.2.2.2.2.2.2.2.2.2.2.2.2.2.2.2.2.1, o.2.2.2.2.2.2.2.2.2.2.2.2.2.2.2.2.2.2.2.2.2.2.2.1, o.2.2.2.2.2.2.2.2.2.2.2.2.2.2.2.2.2.2.2.2.2.2.2.2.1, o.2.2.2.2.2.2.2.2.2.2.2.2.2.2.2.2.2.2.2.2.2.2.2.2.2.1, o.2.2.2.2.2.2.2.2.2.2.2.2.2.2.2.2.2.2.2.2.2.2.2.2.2.2.1, g16, o.2.2.2.2.2.2.2.2.2.2.2.2.2.2.2.2.2.2.2.2.2.2.2.2.2.2.2.1, g18, o.2.2.2.2.2.2.2.2.2.2.2.2.2.2.2.2.2.2.2.2.2.2.2.2.2.2.2.2.1, o.2.2.2.2.2.2.2.2.2.2.2.2.2.2.2.2.2.2.2.2.2.2.2.2.2.2.2.2.2.1, o.2.2.2.2.2.2.2.2.2.2.2.2.2.2.2.2.2.2.2.2.2.2.2.2.2.2.2.2.2.2.1, o.2.2.2.2.2.2.2.2.2.2.2.2.2.2.2.2.2.2.2.2.2.2.2.2.2.2.2.2.2.2.2] := zv_meth (K := (z_KF0, z_KC0, z_KL0, z_KT0, [], [], [], none)) (FT := z_FT) (MT := z_MT) (n := 3) zxp188 (z_ks0 _ (fun _ h => List.mem_cons_of_mem _ h) _ _ _ _ (fun j r h _ => by cases h)) (fun _ _ => zs_KX_p) zyw_X_home (fun va F G h => by obtain ⟨rfl, _⟩ := h; rfl) (fun va F G h => by obtain ⟨rfl, _⟩ := h; rfl) rfl fun good va F G hB hret hvret hP => by
  obtain ⟨rfl, rfl, rfl⟩ := hP
  have l0 : ∀ (n : Nat) (x1 : Int) (x2 : Int) (x3 : Int) (f3 : Int) (f4 : Int) (f5 : Int) (f8 : Int) (f14 : Int) (f16 : Int) (f20 : Int) (f21 : Int) (f22 : Int) (f23 : Int) (f24 : Int) (f25 : Int) (f27 : Int) (f30 : Int) (f31 : Int) (f32 : Int) (f33 : Int) (f34 : Int) (g0 : (Int → Int)) (g1 : (Int → Int)) (g9 : (Int → Int)) (g11 : (Int → Int)) (g12 : (Int → Int)) (g13 : (Int → Int)) (g14 : (Int → Int)) (g15 : (Int → Int)) (g17 : (Int → Int)) (g19 : (Int → Int)) (g20 : (Int → Int)) (g21 : (Int → Int)) (g22 : (Int → Int)) (q : ((Int × Int × Int × Int × Int × Int × Int × (Int → Int) × (Int → Int) × (Int → Int) × (Int → Int) × (Int → Int) × (Int → Int) × (Int → Int)) ⊕ (Int × Int × Int × Int × Int × Int × Int × Int × Int × Int × Int × Int × Int × Int × Int × Int × Int × Int × Int × (Int → Int) × (Int → Int) × (Int → Int) × (Int → Int) × (Int → Int) × (Int → Int) × (Int → Int) × (Int → Int) × (Int → Int) × (Int → Int) × (Int → Int) × (Int → Int) × (Int → Int)))), zf_X_home_l0 x1 x2 f3 f4 f5 f8 f13 f14 f15 f17 f18 f19 f20 f21 f23 f24 f25 f27 g0 g5 g6 g7 g8 g10 g11 g12 g15 g17 g19 n x3 f16 f22 f30 f31 f32 f33 f34 g1 g9 g13 g14 g20 g21 g22 = some q → (Sum.elim (fun e : Int × Int × Int × Int × Int × Int × Int × (Int → Int) × (Int → Int) × (Int → Int) × (Int → Int) × (Int → Int) × (Int → Int) × (Int → Int) => good 116 [.inr 1000, .inr 1000, .inr 1000, .inr 1000] [] [.inr 3, .inr 2, .inr 3, .inl f3, .inl f4, .inl f5, .inl f6, .inl f7, .inl f8, .inl f9, .inl f10, .inl f11, .inl f12, .inl f13, .inl f14, .inl f15, .inl e.1, .inl f17, .inl f18, .inl f19, .inl f20, .inl f21, .inl e.2.1, .inl f23, .inl f24, .inl f25, .inl f26, .inl f27, .inr 1000, .inr 1000, .inl e.2.2.1, .inl e.2.2.2.1, .inl e.2.2.2.2.1, .inl e.2.2.2.2.2.1, .inl e.2.2.2.2.2.2.1] [g0, e.2.2.2.2.2.2.2.1, g2, g3, g4, g5, g6, g7, g8, e.2.2.2.2.2.2.2.2.1, g10, g11, g12, e.2.2.2.2.2.2.2.2.2.1, e.2.2.2.2.2.2.2.2.2.2.1, g15, g16, g17, g18, g19, e.2.2.2.2.2.2.2.2.2.2.2.1, e.2.2.2.2.2.2.2.2.2.2.2.2.1, e.2.2.2.2.2.2.2.2.2.2.2.2.2]) (fun w : Int × Int × Int × Int × Int × Int × Int × Int × Int × Int × Int × Int × Int × Int × Int × Int × Int × Int × Int × (Int → Int) × (Int → Int) × (Int → Int) × (Int → Int) × (Int → Int) × (Int → Int) × (Int → Int) × (Int → Int) × (Int → Int) × (Int → Int) × (Int → Int) × (Int → Int) × (Int → Int) => w = o) q) → good 33 [.inr 0, .inl x1, .inl x2, .inl x3] [] [.inr 3, .inr 2, .inr 3, .inl f3, .inl f4, .inl f5, .inl f6, .inl f7, .inl f8, .inl f9, .inl f10, .inl f11, .inl f12, .inl f13, .inl f14, .inl f15, .inl f16, .inl f17, .inl f18, .inl f19, .inl f20, .inl f21, .inl f22, .inl f23, .inl f24, .inl f25, .inl f26, .inl f27, .inr 1000, .inr 1000, .inl f30, .inl f31, .inl f32, .inl f33, .inl f34] [g0, g1, g2, g3, g4, g5, g6, g7, g8, g9, g10, g11, g12, g13, g14, g15, g16, g17, g18, g19, g20, g21, g22] := by
    intro n
    induction n with
    | zero => intro x1 x2 x3 f3 f4 f5 f8 f14 f16 f20 f21 f22 f23 f24 f25 f27 f30 f31 f32 f33 f34 g0 g1 g9 g11 g12 g13 g14 g15 g17 g19 g20 g21 g22 q h; exact absurd (show none = some q from h) (fun h => by cases h)
    | succ n ih =>
      intro x1 x2 x3 f3 f4 f5 f8 f14 f16 f20 f21 f22 f23 f24 f25 f27 f30 f31 f32 f33 f34 g0 g1 g9 g11 g12 g13 g14 g15 g17 g19 g20 g21 g22 q h hK
      replace h : zf_X_home_l0_b x1 x2 f3 f4 f5 f8 f13 f14 f15 f17 f18 f19 f20 f21 f23 f24 f25 f27 g0 g5 g6 g7 g8 g10 g11 g12 g15 g17 g19 (zf_X_home_l0 x1 x2 f3 f4 f5 f8 f13 f14 f15 f17 f18 f19 f20 f21 f23 f24 f25 f27 g0 g5 g6 g7 g8 g10 g11 g12 g15 g17 g19 n) x3 f16 f22 f30 f31 f32 f33 f34 g1 g9 g13 g14 g20 g21 g22 = some q := h
      unfold zf_X_home_l0_b at h
      refine zv_ild hB zd188_33 rfl rfl ?_
      refine zv_con hB zd188_34 rfl ?_
      refine zv_cgt hB zd188_36 rfl (fun hc5 => ?_) (fun hc5 => ?_)
      · rw [if_pos hc5] at h
        have hq := Option.some.inj h
        subst hq
        refine zv_wk hB (L' := [.inr 1000, .inr 1000, .inr 1000, .inr 1000]) (F' := [.inr 3, .inr 2, .inr 3, .inl f3, .inl f4, .inl f5, .inl f6, .inl f7, .inl f8, .inl f9, .inl f10, .inl f11, .inl f12, .inl f13, .inl f14, .inl f15, .inl f16, .inl f17, .inl f18, .inl f19, .inl f20, .inl f21, .inl f22, .inl f23, .inl f24, .inl f25, .inl f26, .inl f27, .inr 1000, .inr 1000, .inl f30, .inl f31, .inl f32, .inl f33, .inl f34]) ⟨fun (h : zv_is (.inr 1000)) => (Nat.lt_irrefl 1000 h).elim, fun (h : zv_is (.inr 1000)) => (Nat.lt_irrefl 1000 h).elim, fun (h : zv_is (.inr 1000)) => (Nat.lt_irrefl 1000 h).elim, fun (h : zv_is (.inr 1000)) => (Nat.lt_irrefl 1000 h).elim, trivial⟩ ⟨fun _ => rfl, fun _ => rfl, fun _ => rfl, fun _ => rfl, fun _ => rfl, fun _ => rfl, fun _ => rfl, fun _ => rfl, fun _ => rfl, fun _ => rfl, fun _ => rfl, fun _ => rfl, fun _ => rfl, fun _ => rfl, fun _ => rfl, fun _ => rfl, fun _ => rfl, fun _ => rfl, fun _ => rfl, fun _ => rfl, fun _ => rfl, fun _ => rfl, fun _ => rfl, fun _ => rfl, fun _ => rfl, fun _ => rfl, fun _ => rfl, fun _ => rfl, fun (h : zv_is (.inr 1000)) => (Nat.lt_irrefl 1000 h).elim, fun (h : zv_is (.inr 1000)) => (Nat.lt_irrefl 1000 h).elim, fun _ => rfl, fun _ => rfl, fun _ => rfl, fun _ => rfl, fun _ => rfl, trivial⟩ ?_
        exact hK
      · rw [if_neg (Int.not_lt.mpr hc5)] at h
        refine zv_ald hB zd188_39 rfl rfl rfl ?_
        refine zv_getr hB zd188_40 rfl ?_
        obtain ⟨r6, hr6, h⟩ := zi_bind h
        refine zv_cv hB (zv_emq (va2 := [.inr 17]) (F := [.inr 3, .inr 2, .inr 3, .inl f3, .inl f4, .inl f5, .inl f6, .inl f7, .inl f8, .inl f9, .inl f10, .inl f11, .inl f12, .inl f13, .inl f14, .inl f15, .inl f16, .inl f17, .inl f18, .inl f19, .inl f20, .inl f21, .inl f22, .inl f23, .inl f24, .inl f25, .inl f26, .inl f27, .inr 1000, .inr 1000, .inl f30, .inl f31, .inl f32, .inl f33, .inl f34]) (F' := [.inr 3, .inr 2, .inr 3, .inl f3, .inl f4, .inl f5, .inl f6, .inl f7, .inl f8, .inl f9, .inl f10, .inl f11, .inl f12, .inl f13, .inl f14, .inl f15, .inl f16, .inl f17, .inl f18, .inl f19, .inl f20, .inl f21, .inl r6.1, .inl f23, .inl f24, .inl f25, .inl f26, .inl f27, .inr 1000, .inr 1000, .inl f30, .inl f31, .inl f32, .inl f33, .inl f34]) (G := [g0, g1, g2, g3, g4, g5, g6, g7, g8, g9, g10, g11, g12, g13, g14, g15, g16, g17, g18, g19, g20, g21, g22]) (G' := [g0, g1, g2, g3, g4, g5, g6, g7, g8, g9, g10, g11, g12, r6.2.1, r6.2.2, g15, g16, g17, g18, g19, g20, g21, g22]) (ρ := [17, 18, 22, 19, 24]) (φ := [22]) (ψ := [13, 17, 14, 19]) [none, none, none, none, none, none, none, none, none, none, none, none, none, none, none, none, none, none, none, none, none, none, some 0, none, none, none, none, none, none, none, none, none, none, none, none] [none, none, none, none, none, none, none, none, none, none, none, none, none, some 0, some 2, none, none, some 1, none, some 3, none, none, none] zyw_Sky_beginNight zyw_X_home zye_X_home (by decide +kernel) (zt_Sky_beginNight hr6) ⟨⟨_, rfl, fun _ => rfl⟩, trivial⟩ ⟨rfl, rfl, rfl, rfl, trivial⟩ rfl rfl rfl rfl rfl rfl rfl) zd188_43 zxt156 rfl (by decide) (by decide) rfl ?_
        refine zv_ald hB zd188_46 rfl rfl rfl ?_
        refine zv_getr hB zd188_47 rfl ?_
        refine zv_ald hB zd188_50 rfl rfl rfl ?_
        refine zv_getr hB zd188_51 rfl ?_
        refine zv_ald hB zd188_54 rfl rfl rfl ?_
        refine zv_getq hB zd188_55 rfl rfl rfl ?_
        obtain ⟨r7, hr7, h⟩ := zi_bind h
        refine zv_cv hB (zv_emq (va2 := [.inr 25, .inr 17, .inr 3]) (F := [.inr 3, .inr 2, .inr 3, .inl f3, .inl f4, .inl f5, .inl f6, .inl f7, .inl f8, .inl f9, .inl f10, .inl f11, .inl f12, .inl f13, .inl f14, .inl f15, .inl f16, .inl f17, .inl f18, .inl f19, .inl f20, .inl f21, .inl r6.1, .inl f23, .inl f24, .inl f25, .inl f26, .inl f27, .inr 1000, .inr 1000, .inl f30, .inl f31, .inl f32, .inl f33, .inl f34]) (F' := [.inr 3, .inr 2, .inr 3, .inl f3, .inl f4, .inl f5, .inl f6, .inl f7, .inl f8, .inl f9, .inl f10, .inl f11, .inl f12, .inl f13, .inl f14, .inl f15, .inl f16, .inl f17, .inl f18, .inl f19, .inl f20, .inl f21, .inl r6.1, .inl f23, .inl f24, .inl f25, .inl f26, .inl f27, .inr 17, .inr 3, .inl r7.1, .inl f31, .inl f32, .inl f33, .inl f34]) (G := [g0, g1, g2, g3, g4, g5, g6, g7, g8, g9, g10, g11, g12, r6.2.1, r6.2.2, g15, g16, g17, g18, g19, g20, g21, g22]) (G' := [g0, g1, g2, g3, g4, g5, g6, g7, g8, g9, g10, g11, g12, r6.2.1, r6.2.2, g15, g16, g17, g18, g19, r7.2, g21, g22]) (ρ := [25, 17, 3, 26]) (φ := [28, 29, 30]) (ψ := [20]) [none, none, none, none, none, none, none, none, none, none, none, none, none, none, none, none, none, none, none, none, none, none, none, none, none, none, none, none, some 0, some 1, some 2, none, none, none, none] [none, none, none, none, none, none, none, none, none, none, none, none, none, none, none, none, none, none, none, none, some 0, none, none] zyw_View_open zyw_X_home zye_X_home (by decide +kernel) (zt_View_open hr7) ⟨⟨_, rfl, fun (h : zv_is (.inr 1000)) => (Nat.lt_irrefl 1000 h).elim⟩, ⟨_, rfl, fun (h : zv_is (.inr 1000)) => (Nat.lt_irrefl 1000 h).elim⟩, ⟨_, rfl, fun _ => rfl⟩, trivial⟩ ⟨rfl, trivial⟩ rfl rfl rfl rfl rfl rfl rfl) zd188_58 zxt84 rfl (by decide) (by decide) rfl ?_
        refine zv_ald hB zd188_61 rfl rfl rfl ?_
        refine zv_getr hB zd188_62 rfl ?_
        refine zv_ild hB zd188_65 rfl rfl ?_
        refine zv_ild hB zd188_66 rfl rfl ?_
        obtain ⟨r8, hr8, h⟩ := zi_bind h
        refine zv_cv hB (zv_emq (va2 := [.inr 25, .inl x1, .inl x2]) (F := [.inr 3, .inr 2, .inr 3, .inl f3, .inl f4, .inl f5, .inl f6, .inl f7, .inl f8, .inl f9, .inl f10, .inl f11, .inl f12, .inl f13, .inl f14, .inl f15, .inl f16, .inl f17, .inl f18, .inl f19, .inl f20, .inl f21, .inl r6.1, .inl f23, .inl f24, .inl f25, .inl f26, .inl f27, .inr 17, .inr 3, .inl r7.1, .inl f31, .inl f32, .inl f33, .inl f34]) (F' := [.inr 3, .inr 2, .inr 3, .inl f3, .inl f4, .inl f5, .inl f6, .inl f7, .inl f8, .inl f9, .inl f10, .inl f11, .inl f12, .inl f13, .inl f14, .inl f15, .inl r8.2.2.2.2.2.1, .inl f17, .inl f18, .inl f19, .inl f20, .inl f21, .inl r6.1, .inl f23, .inl f24, .inl f25, .inl f26, .inl f27, .inr 17, .inr 3, .inl r8.2.2.2.1, .inl r8.1, .inl r8.2.1, .inl r8.2.2.1, .inl r8.2.2.2.2.1]) (G := [g0, g1, g2, g3, g4, g5, g6, g7, g8, g9, g10, g11, g12, r6.2.1, r6.2.2, g15, g16, g17, g18, g19, r7.2, g21, g22]) (G' := [g0, r8.2.2.2.2.2.2.1, g2, g3, g4, g5, g6, g7, g8, r8.2.2.2.2.2.2.2, g10, g11, g12, r6.2.1, r6.2.2, g15, g16, g17, g18, g19, r7.2, g21, g22]) (ρ := [25, 3, 5, 17, 18, 19, 20, 9, 10, 11, 12, 13, 14]) (φ := [29, 28, 31, 32, 21, 22, 33, 20, 24, 25, 23, 13, 30, 34, 15, 16, 17]) (ψ := [1, 13, 14, 15, 5, 6, 7, 8, 9, 10]) [none, none, none, none, none, none, none, none, none, none, none, none, none, some 11, none, some 14, some 15, some 16, none, none, some 7, some 4, some 5, some 10, some 8, some 9, none, none, some 1, some 0, some 12, some 2, some 3, some 6, some 13] [none, some 0, none, none, none, some 4, some 5, some 6, some 7, some 8, some 9, none, none, some 1, some 2, some 3, none, none, none, none, none, none, none] zyw_View_look zyw_X_home zye_X_home (by decide +kernel) (zt_View_look hr8) ⟨⟨_, rfl, fun _ => rfl⟩, ⟨_, rfl, fun _ => rfl⟩, ⟨_, rfl, fun _ => rfl⟩, ⟨_, rfl, fun _ => rfl⟩, ⟨_, rfl, fun _ => rfl⟩, ⟨_, rfl, fun _ => rfl⟩, ⟨_, rfl, fun _ => rfl⟩, ⟨_, rfl, fun _ => rfl⟩, ⟨_, rfl, fun _ => rfl⟩, ⟨_, rfl, fun _ => rfl⟩, ⟨_, rfl, fun _ => rfl⟩, ⟨_, rfl, fun _ => rfl⟩, ⟨_, rfl, fun _ => rfl⟩, ⟨_, rfl, fun _ => rfl⟩, ⟨_, rfl, fun _ => rfl⟩, ⟨_, rfl, fun _ => rfl⟩, ⟨_, rfl, fun _ => rfl⟩, trivial⟩ ⟨rfl, rfl, rfl, rfl, rfl, rfl, rfl, rfl, rfl, rfl, trivial⟩ rfl rfl rfl rfl rfl rfl rfl) zd188_67 zxt85 rfl (by decide) (by decide) rfl ?_
        refine zv_ald hB zd188_70 rfl rfl rfl ?_
        refine zv_getr hB zd188_71 rfl ?_
        refine zv_getf hB zd188_74 rfl rfl (fun _ _ => ?_)
        refine zv_ald hB zd188_77 rfl rfl rfl ?_
        refine zv_getr hB zd188_78 rfl ?_
        refine zv_getf hB zd188_81 rfl rfl (fun _ _ => ?_)
        refine zv_cne hB zd188_84 rfl (fun hc9 => ?_) (fun hc9 => ?_)
        · rw [if_neg hc9] at h
          refine zv_iincw hB zd188_110 rfl rfl ?_
          refine zv_goto hB zd188_113 rfl ?_
          refine zv_wk hB (L' := [.inr 0, .inl x1, .inl x2, .inl (zi_w (x3 + 1))]) (F' := [.inr 3, .inr 2, .inr 3, .inl f3, .inl f4, .inl f5, .inl f6, .inl f7, .inl f8, .inl f9, .inl f10, .inl f11, .inl f12, .inl f13, .inl f14, .inl f15, .inl r8.2.2.2.2.2.1, .inl f17, .inl f18, .inl f19, .inl f20, .inl f21, .inl r6.1, .inl f23, .inl f24, .inl f25, .inl f26, .inl f27, .inr 1000, .inr 1000, .inl r8.2.2.2.1, .inl r8.1, .inl r8.2.1, .inl r8.2.2.1, .inl r8.2.2.2.2.1]) ⟨fun _ => rfl, fun _ => rfl, fun _ => rfl, fun _ => rfl, trivial⟩ ⟨fun _ => rfl, fun _ => rfl, fun _ => rfl, fun _ => rfl, fun _ => rfl, fun _ => rfl, fun _ => rfl, fun _ => rfl, fun _ => rfl, fun _ => rfl, fun _ => rfl, fun _ => rfl, fun _ => rfl, fun _ => rfl, fun _ => rfl, fun _ => rfl, fun _ => rfl, fun _ => rfl, fun _ => rfl, fun _ => rfl, fun _ => rfl, fun _ => rfl, fun _ => rfl, fun _ => rfl, fun _ => rfl, fun _ => rfl, fun _ => rfl, fun _ => rfl, fun (h : zv_is (.inr 1000)) => (Nat.lt_irrefl 1000 h).elim, fun (h : zv_is (.inr 1000)) => (Nat.lt_irrefl 1000 h).elim, fun _ => rfl, fun _ => rfl, fun _ => rfl, fun _ => rfl, fun _ => rfl, trivial⟩ ?_
          exact ih _ _ _ _ _ _ _ _ _ _ _ _ _ _ _ _ _ _ _ _ _ _ _ _ _ _ _ _ _ _ _ _ _ _ q h hK
        · rw [if_pos hc9] at h
          refine zv_ald hB zd188_87 rfl rfl rfl ?_
          refine zv_getr hB zd188_88 rfl ?_
          obtain ⟨r10, hr10, h⟩ := zi_bind h
          refine zv_cv hB (zv_emq (va2 := [.inr 25]) (F := [.inr 3, .inr 2, .inr 3, .inl f3, .inl f4, .inl f5, .inl f6, .inl f7, .inl f8, .inl f9, .inl f10, .inl f11, .inl f12, .inl f13, .inl f14, .inl f15, .inl r8.2.2.2.2.2.1, .inl f17, .inl f18, .inl f19, .inl f20, .inl f21, .inl r6.1, .inl f23, .inl f24, .inl f25, .inl f26, .inl f27, .inr 17, .inr 3, .inl r8.2.2.2.1, .inl r8.1, .inl r8.2.1, .inl r8.2.2.1, .inl r8.2.2.2.2.1]) (F' := [.inr 3, .inr 2, .inr 3, .inl f3, .inl f4, .inl f5, .inl f6, .inl f7, .inl f8, .inl f9, .inl f10, .inl f11, .inl f12, .inl f13, .inl f14, .inl f15, .inl r10.2.2.1, .inl f17, .inl f18, .inl f19, .inl f20, .inl f21, .inl r6.1, .inl f23, .inl f24, .inl f25, .inl f26, .inl f27, .inr 17, .inr 3, .inl r8.2.2.2.1, .inl r10.1, .inl r10.2.1, .inl r8.2.2.1, .inl r8.2.2.2.2.1]) (G := [g0, r8.2.2.2.2.2.2.1, g2, g3, g4, g5, g6, g7, g8, r8.2.2.2.2.2.2.2, g10, g11, g12, r6.2.1, r6.2.2, g15, g16, g17, g18, g19, r7.2, g21, g22]) (G' := [g0, r10.2.2.2.2.1, g2, g3, g4, g5, g6, g7, g8, r10.2.2.2.2.2.2.2, g10, g11, g12, r6.2.1, r6.2.2, g15, g16, g17, g18, g19, r10.2.2.2.2.2.1, r10.2.2.2.1, r10.2.2.2.2.2.2.1]) (ρ := [25, 27, 3, 5, 17, 26, 28, 20, 19, 18, 9, 10, 11, 12, 13, 14]) (φ := [29, 18, 31, 32, 28, 21, 22, 33, 15, 16, 19]) (ψ := [21, 1, 20, 22, 15, 14, 13, 5, 6, 7, 8, 9, 10]) [none, none, none, none, none, none, none, none, none, none, none, none, none, none, none, some 8, some 9, none, some 1, some 10, none, some 5, some 6, none, none, none, none, none, some 4, some 0, none, some 2, some 3, some 7, none] [none, some 1, none, none, none, some 7, some 8, some 9, some 10, some 11, some 12, none, none, some 6, some 5, some 4, none, none, none, none, some 2, some 0, some 3] zyw_View_draw zyw_X_home zye_X_home (by decide +kernel) (zt_View_draw hr10) ⟨⟨_, rfl, fun _ => rfl⟩, ⟨_, rfl, fun _ => rfl⟩, ⟨_, rfl, fun _ => rfl⟩, ⟨_, rfl, fun _ => rfl⟩, ⟨_, rfl, fun _ => rfl⟩, ⟨_, rfl, fun _ => rfl⟩, ⟨_, rfl, fun _ => rfl⟩, ⟨_, rfl, fun _ => rfl⟩, ⟨_, rfl, fun _ => rfl⟩, ⟨_, rfl, fun _ => rfl⟩, ⟨_, rfl, fun _ => rfl⟩, trivial⟩ ⟨rfl, rfl, rfl, rfl, rfl, rfl, rfl, rfl, rfl, rfl, rfl, rfl, rfl, trivial⟩ rfl rfl rfl rfl rfl rfl rfl) zd188_91 zxt97 rfl (by decide) (by decide) rfl ?_
          refine zv_ald hB zd188_94 rfl rfl rfl ?_
          refine zv_getr hB zd188_95 rfl ?_
          refine zv_ald hB zd188_98 rfl rfl rfl ?_
          refine zv_getr hB zd188_99 rfl ?_
          obtain ⟨r11, hr11, h⟩ := zi_bind h
          refine zv_cv hB (zv_emq (va2 := [.inr 25, .inr 1]) (F := [.inr 3, .inr 2, .inr 3, .inl f3, .inl f4, .inl f5, .inl f6, .inl f7, .inl f8, .inl f9, .inl f10, .inl f11, .inl f12, .inl f13, .inl f14, .inl f15, .inl r10.2.2.1, .inl f17, .inl f18, .inl f19, .inl f20, .inl f21, .inl r6.1, .inl f23, .inl f24, .inl f25, .inl f26, .inl f27, .inr 17, .inr 3, .inl r8.2.2.2.1, .inl r10.1, .inl r10.2.1, .inl r8.2.2.1, .inl r8.2.2.2.2.1]) (F' := [.inr 3, .inr 2, .inr 3, .inl f3, .inl f4, .inl f5, .inl f6, .inl f7, .inl f8, .inl f9, .inl f10, .inl f11, .inl f12, .inl f13, .inl f14, .inl f15, .inl r10.2.2.1, .inl f17, .inl f18, .inl f19, .inl f20, .inl f21, .inl r6.1, .inl f23, .inl f24, .inl f25, .inl f26, .inl f27, .inr 17, .inr 3, .inl r8.2.2.2.1, .inl r10.1, .inl r10.2.1, .inl r8.2.2.1, .inl r8.2.2.2.2.1]) (G := [g0, r10.2.2.2.2.1, g2, g3, g4, g5, g6, g7, g8, r10.2.2.2.2.2.2.2, g10, g11, g12, r6.2.1, r6.2.2, g15, g16, g17, g18, g19, r10.2.2.2.2.2.1, r10.2.2.2.1, r10.2.2.2.2.2.2.1]) (G' := [g0, r10.2.2.2.2.1, g2, g3, g4, g5, g6, g7, g8, r10.2.2.2.2.2.2.2, g10, g11, g12, r6.2.1, r6.2.2, g15, g16, g17, g18, g19, r10.2.2.2.2.2.1, r10.2.2.2.1, r10.2.2.2.2.2.2.1]) (ρ := [25, 1, 27, 15]) (φ := []) (ψ := [21, 11]) [none, none, none, none, none, none, none, none, none, none, none, none, none, none, none, none, none, none, none, none, none, none, none, none, none, none, none, none, none, none, none, none, none, none, none] [none, none, none, none, none, none, none, none, none, none, none, some 1, none, none, none, none, none, none, none, none, none, some 0, none] zyw_View_hasLinesOf zyw_X_home zye_X_home (by decide +kernel) (zt_View_hasLinesOf hr11) trivial ⟨rfl, rfl, trivial⟩ rfl rfl rfl rfl rfl rfl rfl) zd188_102 zxt189 rfl (by decide) (by decide) rfl ?_
          refine zv_zeq hB zd188_105 rfl (fun hc12 => ?_) (fun hc12 => ?_)
          · rw [if_pos hc12] at h
            refine zv_iincw hB zd188_110 rfl rfl ?_
            refine zv_goto hB zd188_113 rfl ?_
            refine zv_wk hB (L' := [.inr 0, .inl x1, .inl x2, .inl (zi_w (x3 + 1))]) (F' := [.inr 3, .inr 2, .inr 3, .inl f3, .inl f4, .inl f5, .inl f6, .inl f7, .inl f8, .inl f9, .inl f10, .inl f11, .inl f12, .inl f13, .inl f14, .inl f15, .inl r10.2.2.1, .inl f17, .inl f18, .inl f19, .inl f20, .inl f21, .inl r6.1, .inl f23, .inl f24, .inl f25, .inl f26, .inl f27, .inr 1000, .inr 1000, .inl r8.2.2.2.1, .inl r10.1, .inl r10.2.1, .inl r8.2.2.1, .inl r8.2.2.2.2.1]) ⟨fun _ => rfl, fun _ => rfl, fun _ => rfl, fun _ => rfl, trivial⟩ ⟨fun _ => rfl, fun _ => rfl, fun _ => rfl, fun _ => rfl, fun _ => rfl, fun _ => rfl, fun _ => rfl, fun _ => rfl, fun _ => rfl, fun _ => rfl, fun _ => rfl, fun _ => rfl, fun _ => rfl, fun _ => rfl, fun _ => rfl, fun _ => rfl, fun _ => rfl, fun _ => rfl, fun _ => rfl, fun _ => rfl, fun _ => rfl, fun _ => rfl, fun _ => rfl, fun _ => rfl, fun _ => rfl, fun _ => rfl, fun _ => rfl, fun _ => rfl, fun (h : zv_is (.inr 1000)) => (Nat.lt_irrefl 1000 h).elim, fun (h : zv_is (.inr 1000)) => (Nat.lt_irrefl 1000 h).elim, fun _ => rfl, fun _ => rfl, fun _ => rfl, fun _ => rfl, fun _ => rfl, trivial⟩ ?_
            exact ih _ _ _ _ _ _ _ _ _ _ _ _ _ _ _ _ _ _ _ _ _ _ _ _ _ _ _ _ _ _ _ _ _ _ q h hK
          · rw [if_neg hc12] at h
            refine zv_ild hB zd188_108 rfl rfl ?_
            have hw : (x3, f3, f4, f5, f8, f14, r10.2.2.1, f20, f21, r6.1, f23, f24, f25, f27, r8.2.2.2.1, r10.1, r10.2.1, r8.2.2.1, r8.2.2.2.2.1, g0, r10.2.2.2.2.1, r10.2.2.2.2.2.2.2, g11, g12, r6.2.1, r6.2.2, g15, g17, g19, r10.2.2.2.2.2.1, r10.2.2.2.1, r10.2.2.2.2.2.2.1) = o := zi_rk (Option.some.inj h) hK
            refine zv_wk hB (L' := [.inr 0, .inl x1, .inl x2, .inl x3]) (F' := [.inr 3, .inr 1000, .inr 1000, .inl f3, .inl f4, .inl f5, .inl f6, .inl f7, .inl f8, .inl f9, .inl f10, .inl f11, .inl f12, .inl f13, .inl f14, .inl f15, .inl r10.2.2.1, .inl f17, .inl f18, .inl f19, .inl f20, .inl f21, .inl r6.1, .inl f23, .inl f24, .inl f25, .inl f26, .inl f27, .inr 1000, .inr 1000, .inl r8.2.2.2.1, .inl r10.1, .inl r10.2.1, .inl r8.2.2.1, .inl r8.2.2.2.2.1]) ⟨fun _ => rfl, fun _ => rfl, fun _ => rfl, fun _ => rfl, trivial⟩ ⟨fun _ => rfl, fun (h : zv_is (.inr 1000)) => (Nat.lt_irrefl 1000 h).elim, fun (h : zv_is (.inr 1000)) => (Nat.lt_irrefl 1000 h).elim, fun _ => rfl, fun _ => rfl, fun _ => rfl, fun _ => rfl, fun _ => rfl, fun _ => rfl, fun _ => rfl, fun _ => rfl, fun _ => rfl, fun _ => rfl, fun _ => rfl, fun _ => rfl, fun _ => rfl, fun _ => rfl, fun _ => rfl, fun _ => rfl, fun _ => rfl, fun _ => rfl, fun _ => rfl, fun _ => rfl, fun _ => rfl, fun _ => rfl, fun _ => rfl, fun _ => rfl, fun _ => rfl, fun (h : zv_is (.inr 1000)) => (Nat.lt_irrefl 1000 h).elim, fun (h : zv_is (.inr 1000)) => (Nat.lt_irrefl 1000 h).elim, fun _ => rfl, fun _ => rfl, fun _ => rfl, fun _ => rfl, fun _ => rfl, trivial⟩ ?_
            subst hw
            exact hret _ _ _ _ _ zd188_109 (by trivial) ⟨rfl, rfl, rfl⟩
  unfold zf_X_home at h
  refine zv_ild hB zd188_0 rfl rfl ?_
  refine zv_ild hB zd188_1 rfl rfl ?_
  obtain ⟨r1, hr1, h⟩ := zi_bind h
  refine zv_cs hB (zv_emq (va2 := [.inl x1, .inl x2]) (F := [.inr 3, .inr 1000, .inr 1000, .inl f3, .inl f4, .inl f5, .inl f6, .inl f7, .inl f8, .inl f9, .inl f10, .inl f11, .inl f12, .inl f13, .inl f14, .inl f15, .inl f16, .inl f17, .inl f18, .inl f19, .inl f20, .inl f21, .inl f22, .inl f23, .inl f24, .inl f25, .inl f26, .inl f27, .inr 1000, .inr 1000, .inl f30, .inl f31, .inl f32, .inl f33, .inl f34]) (F' := [.inr 3, .inr 1000, .inr 1000, .inl f3, .inl f4, .inl f5, .inl f6, .inl f7, .inl f8, .inl f9, .inl f10, .inl f11, .inl f12, .inl f13, .inl f14, .inl f15, .inl f16, .inl f17, .inl f18, .inl f19, .inl f20, .inl f21, .inl f22, .inl f23, .inl f24, .inl f25, .inl f26, .inl f27, .inr 1000, .inr 1000, .inl f30, .inl f31, .inl f32, .inl f33, .inl f34]) (G := [g0, g1, g2, g3, g4, g5, g6, g7, g8, g9, g10, g11, g12, g13, g14, g15, g16, g17, g18, g19, g20, g21, g22]) (G' := [g0, g1, g2, g3, g4, g5, g6, g7, g8, g9, g10, g11, g12, g13, g14, g15, g16, g17, g18, g19, g20, g21, g22]) (ρ := []) (φ := []) (ψ := []) [none, none, none, none, none, none, none, none, none, none, none, none, none, none, none, none, none, none, none, none, none, none, none, none, none, none, none, none, none, none, none, none, none, none, none] [none, none, none, none, none, none, none, none, none, none, none, none, none, none, none, none, none, none, none, none, none, none, none] zyw_X_isPlace zyw_X_home zye_X_home (by decide +kernel) (zt_X_isPlace hr1) trivial trivial rfl rfl rfl rfl rfl rfl rfl) zd188_2 zxt16 rfl (by decide) (by decide) rfl ?_
  refine zv_zne hB zd188_5 rfl (fun hc2 => ?_) (fun hc2 => ?_)
  · rw [if_neg hc2] at h
    refine zv_ald hB zd188_10 rfl rfl rfl ?_
    refine zv_ald hB zd188_11 rfl rfl rfl ?_
    refine zv_getr hB zd188_12 rfl ?_
    refine zv_ild hB zd188_15 rfl rfl ?_
    refine zv_ild hB zd188_16 rfl rfl ?_
    obtain ⟨r3, hr3, h⟩ := zi_bind h
    refine zv_cv hB (zv_emq (va2 := [.inr 0, .inr 1, .inl x1, .inl x2]) (F := [.inr 3, .inr 1000, .inr 1000, .inl f3, .inl f4, .inl f5, .inl f6, .inl f7, .inl f8, .inl f9, .inl f10, .inl f11, .inl f12, .inl f13, .inl f14, .inl f15, .inl f16, .inl f17, .inl f18, .inl f19, .inl f20, .inl f21, .inl f22, .inl f23, .inl f24, .inl f25, .inl f26, .inl f27, .inr 1000, .inr 1000, .inl f30, .inl f31, .inl f32, .inl f33, .inl f34]) (F' := [.inr 3, .inr 2, .inr 3, .inl r3.1, .inl r3.2.1, .inl r3.2.2.1, .inl f6, .inl f7, .inl r3.2.2.2.1, .inl f9, .inl f10, .inl f11, .inl f12, .inl f13, .inl r3.2.2.2.2.1, .inl f15, .inl r3.2.2.2.2.2.1, .inl f17, .inl f18, .inl f19, .inl f20, .inl f21, .inl f22, .inl f23, .inl f24, .inl f25, .inl f26, .inl f27, .inr 1000, .inr 1000, .inl f30, .inl f31, .inl f32, .inl f33, .inl f34]) (G := [g0, g1, g2, g3, g4, g5, g6, g7, g8, g9, g10, g11, g12, g13, g14, g15, g16, g17, g18, g19, g20, g21, g22]) (G' := [r3.2.2.2.2.2.2.1, r3.2.2.2.2.2.2.2.1, g2, g3, g4, g5, g6, g7, g8, r3.2.2.2.2.2.2.2.2.1, g10, r3.2.2.2.2.2.2.2.2.2.1, r3.2.2.2.2.2.2.2.2.2.2, g13, g14, g15, g16, g17, g18, g19, g20, g21, g22]) (ρ := [0, 1, 2, 3, 4, 5, 6, 7, 8, 9, 10, 11, 12, 13, 14, 15, 16]) (φ := [0, 1, 2, 3, 4, 5, 6, 7, 8, 9, 10, 11, 12, 13, 14, 15, 16, 17, 18, 19]) (ψ := [0, 1, 2, 3, 4, 5, 6, 7, 8, 9, 10, 11, 12]) [some 0, some 1, some 2, some 3, some 4, some 5, some 6, some 7, some 8, some 9, some 10, some 11, some 12, some 13, some 14, some 15, some 16, some 17, some 18, some 19, none, none, none, none, none, none, none, none, none, none, none, none, none, none, none] [some 0, some 1, some 2, some 3, some 4, some 5, some 6, some 7, some 8, some 9, some 10, some 11, some 12, none, none, none, none, none, none, none, none, none, none] zyw_X_lookAndDraw zyw_X_home zye_X_home (by decide +kernel) (zt_X_lookAndDraw hr3) ⟨⟨_, rfl, fun _ => rfl⟩, ⟨_, rfl, fun (h : zv_is (.inr 1000)) => (Nat.lt_irrefl 1000 h).elim⟩, ⟨_, rfl, fun (h : zv_is (.inr 1000)) => (Nat.lt_irrefl 1000 h).elim⟩, ⟨_, rfl, fun _ => rfl⟩, ⟨_, rfl, fun _ => rfl⟩, ⟨_, rfl, fun _ => rfl⟩, ⟨_, rfl, fun _ => rfl⟩, ⟨_, rfl, fun _ => rfl⟩, ⟨_, rfl, fun _ => rfl⟩, ⟨_, rfl, fun _ => rfl⟩, ⟨_, rfl, fun _ => rfl⟩, ⟨_, rfl, fun _ => rfl⟩, ⟨_, rfl, fun _ => rfl⟩, ⟨_, rfl, fun _ => rfl⟩, ⟨_, rfl, fun _ => rfl⟩, ⟨_, rfl, fun _ => rfl⟩, ⟨_, rfl, fun _ => rfl⟩, ⟨_, rfl, fun _ => rfl⟩, ⟨_, rfl, fun _ => rfl⟩, ⟨_, rfl, fun _ => rfl⟩, trivial⟩ ⟨rfl, rfl, rfl, rfl, rfl, rfl, rfl, rfl, rfl, rfl, rfl, rfl, rfl, trivial⟩ rfl rfl rfl rfl rfl rfl rfl) zd188_17 zxt96 rfl (by decide) (by decide) rfl ?_
    refine zv_ald hB zd188_20 rfl rfl rfl ?_
    refine zv_getr hB zd188_21 rfl ?_
    refine zv_ald hB zd188_24 rfl rfl rfl ?_
    refine zv_getr hB zd188_25 rfl ?_
    obtain ⟨r4, hr4, h⟩ := zi_bind h
    refine zv_cv hB (zv_emq (va2 := [.inr 17, .inr 2]) (F := [.inr 3, .inr 2, .inr 3, .inl r3.1, .inl r3.2.1, .inl r3.2.2.1, .inl f6, .inl f7, .inl r3.2.2.2.1, .inl f9, .inl f10, .inl f11, .inl f12, .inl f13, .inl r3.2.2.2.2.1, .inl f15, .inl r3.2.2.2.2.2.1, .inl f17, .inl f18, .inl f19, .inl f20, .inl f21, .inl f22, .inl f23, .inl f24, .inl f25, .inl f26, .inl f27, .inr 1000, .inr 1000, .inl f30, .inl f31, .inl f32, .inl f33, .inl f34]) (F' := [.inr 3, .inr 2, .inr 3, .inl r3.1, .inl r3.2.1, .inl r3.2.2.1, .inl f6, .inl f7, .inl r3.2.2.2.1, .inl f9, .inl f10, .inl f11, .inl f12, .inl f13, .inl r3.2.2.2.2.1, .inl f15, .inl r3.2.2.2.2.2.1, .inl f17, .inl f18, .inl f19, .inl r4.1, .inl r4.2.1, .inl r4.2.2.1, .inl r4.2.2.2.1, .inl r4.2.2.2.2.1, .inl r4.2.2.2.2.2.1, .inl f26, .inl r4.2.2.2.2.2.2.1, .inr 1000, .inr 1000, .inl f30, .inl f31, .inl f32, .inl f33, .inl f34]) (G := [r3.2.2.2.2.2.2.1, r3.2.2.2.2.2.2.2.1, g2, g3, g4, g5, g6, g7, g8, r3.2.2.2.2.2.2.2.2.1, g10, r3.2.2.2.2.2.2.2.2.2.1, r3.2.2.2.2.2.2.2.2.2.2, g13, g14, g15, g16, g17, g18, g19, g20, g21, g22]) (G' := [r3.2.2.2.2.2.2.1, r3.2.2.2.2.2.2.2.1, g2, g3, g4, g5, g6, g7, g8, r3.2.2.2.2.2.2.2.2.1, g10, r3.2.2.2.2.2.2.2.2.2.1, r3.2.2.2.2.2.2.2.2.2.2, r4.2.2.2.2.2.2.2.1, r4.2.2.2.2.2.2.2.2.1, r4.2.2.2.2.2.2.2.2.2.1, g16, r4.2.2.2.2.2.2.2.2.2.2.1, g18, r4.2.2.2.2.2.2.2.2.2.2.2, g20, g21, g22]) (ρ := [17, 2, 6, 18, 7, 19, 8, 20, 21, 22, 23, 24]) (φ := [9, 20, 6, 21, 7, 22, 12, 23, 10, 24, 11, 25, 26, 27]) (ψ := [2, 13, 3, 14, 4, 15, 16, 17, 18, 19]) [none, none, none, none, none, none, some 2, some 4, none, some 0, some 8, some 10, some 6, none, none, none, none, none, none, none, some 1, some 3, some 5, some 7, some 9, some 11, some 12, some 13, none, none, none, none, none, none, none] [none, none, some 0, some 2, some 4, none, none, none, none, none, none, none, none, some 1, some 3, some 5, some 6, some 7, some 8, some 9, none, none, none] zyw_Sky_copyFrom zyw_X_home zye_X_home (by decide +kernel) (zt_Sky_copyFrom hr4) ⟨⟨_, rfl, fun _ => rfl⟩, ⟨_, rfl, fun _ => rfl⟩, ⟨_, rfl, fun _ => rfl⟩, ⟨_, rfl, fun _ => rfl⟩, ⟨_, rfl, fun _ => rfl⟩, ⟨_, rfl, fun _ => rfl⟩, ⟨_, rfl, fun _ => rfl⟩, ⟨_, rfl, fun _ => rfl⟩, ⟨_, rfl, fun _ => rfl⟩, ⟨_, rfl, fun _ => rfl⟩, ⟨_, rfl, fun _ => rfl⟩, ⟨_, rfl, fun _ => rfl⟩, ⟨_, rfl, fun _ => rfl⟩, ⟨_, rfl, fun _ => rfl⟩, trivial⟩ ⟨rfl, rfl, rfl, rfl, rfl, rfl, rfl, rfl, rfl, rfl, trivial⟩ rfl rfl rfl rfl rfl rfl rfl) zd188_28 zxt125 rfl (by decide) (by decide) rfl ?_
    refine zv_con hB zd188_31 rfl ?_
    refine zv_ist hB zd188_32 rfl rfl rfl ?_
    obtain ⟨q13, hq13, h⟩ := zi_bind h
    refine l0 _ _ _ _ _ _ _ _ _ _ _ _ _ _ _ _ _ _ _ _ _ _ _ _ _ _ _ _ _ _ _ _ _ _ _ q13 hq13 ?_
    rcases q13 with e14 | w15
    · replace h := zi_sl h
      show good 116 [.inr 1000, .inr 1000, .inr 1000, .inr 1000] [] [.inr 3, .inr 2, .inr 3, .inl r3.1, .inl r3.2.1, .inl r3.2.2.1, .inl f6, .inl f7, .inl r3.2.2.2.1, .inl f9, .inl f10, .inl f11, .inl f12, .inl f13, .inl r3.2.2.2.2.1, .inl f15, .inl e14.1, .inl f17, .inl f18, .inl f19, .inl r4.1, .inl r4.2.1, .inl e14.2.1, .inl r4.2.2.2.1, .inl r4.2.2.2.2.1, .inl r4.2.2.2.2.2.1, .inl f26, .inl r4.2.2.2.2.2.2.1, .inr 1000, .inr 1000, .inl e14.2.2.1, .inl e14.2.2.2.1, .inl e14.2.2.2.2.1, .inl e14.2.2.2.2.2.1, .inl e14.2.2.2.2.2.2.1] [r3.2.2.2.2.2.2.1, e14.2.2.2.2.2.2.2.1, g2, g3, g4, g5, g6, g7, g8, e14.2.2.2.2.2.2.2.2.1, g10, r3.2.2.2.2.2.2.2.2.2.1, r3.2.2.2.2.2.2.2.2.2.2, e14.2.2.2.2.2.2.2.2.2.1, e14.2.2.2.2.2.2.2.2.2.2.1, r4.2.2.2.2.2.2.2.2.2.1, g16, r4.2.2.2.2.2.2.2.2.2.2.1, g18, r4.2.2.2.2.2.2.2.2.2.2.2, e14.2.2.2.2.2.2.2.2.2.2.2.1, e14.2.2.2.2.2.2.2.2.2.2.2.2.1, e14.2.2.2.2.2.2.2.2.2.2.2.2.2]
      refine zv_con hB zd188_116 rfl ?_
      have hw := Option.some.inj h
      refine zv_wk hB (L' := [.inr 1000, .inr 1000, .inr 1000, .inr 1000]) (F' := [.inr 3, .inr 1000, .inr 1000, .inl r3.1, .inl r3.2.1, .inl r3.2.2.1, .inl f6, .inl f7, .inl r3.2.2.2.1, .inl f9, .inl f10, .inl f11, .inl f12, .inl f13, .inl r3.2.2.2.2.1, .inl f15, .inl e14.1, .inl f17, .inl f18, .inl f19, .inl r4.1, .inl r4.2.1, .inl e14.2.1, .inl r4.2.2.2.1, .inl r4.2.2.2.2.1, .inl r4.2.2.2.2.2.1, .inl f26, .inl r4.2.2.2.2.2.2.1, .inr 1000, .inr 1000, .inl e14.2.2.1, .inl e14.2.2.2.1, .inl e14.2.2.2.2.1, .inl e14.2.2.2.2.2.1, .inl e14.2.2.2.2.2.2.1]) ⟨fun _ => rfl, fun _ => rfl, fun _ => rfl, fun _ => rfl, trivial⟩ ⟨fun _ => rfl, fun (h : zv_is (.inr 1000)) => (Nat.lt_irrefl 1000 h).elim, fun (h : zv_is (.inr 1000)) => (Nat.lt_irrefl 1000 h).elim, fun _ => rfl, fun _ => rfl, fun _ => rfl, fun _ => rfl, fun _ => rfl, fun _ => rfl, fun _ => rfl, fun _ => rfl, fun _ => rfl, fun _ => rfl, fun _ => rfl, fun _ => rfl, fun _ => rfl, fun _ => rfl, fun _ => rfl, fun _ => rfl, fun _ => rfl, fun _ => rfl, fun _ => rfl, fun _ => rfl, fun _ => rfl, fun _ => rfl, fun _ => rfl, fun _ => rfl, fun _ => rfl, fun (h : zv_is (.inr 1000)) => (Nat.lt_irrefl 1000 h).elim, fun (h : zv_is (.inr 1000)) => (Nat.lt_irrefl 1000 h).elim, fun _ => rfl, fun _ => rfl, fun _ => rfl, fun _ => rfl, fun _ => rfl, trivial⟩ ?_
      subst hw
      exact hret _ _ _ _ _ zd188_118 (by trivial) ⟨rfl, rfl, rfl⟩
    · exact Option.some.inj h
  · rw [if_pos hc2] at h
    refine zv_con hB zd188_8 rfl ?_
    have hw := Option.some.inj h
    subst hw
    exact hret _ _ _ _ _ zd188_9 (by trivial) ⟨rfl, rfl, rfl⟩
end
section
/-! Methods as functions, and that they do what these do. -/
/-! X_seed (I)Z -/
-- names: 0 StarTales('arg', 0), 1 Sky(0, 0, 0)
-- fields: f0 = 1.chance_; arrays: ; out: [('ret', None), ('f', 0)]
abbrev zy_X_seed : zNL := (2, [(0, 0), (1, 1)], [(1, 1, 11, 0)], [(0, 0, 0, 1)], [])
theorem zyw_X_seed : zv_wf zy_X_seed = true := by decide +kernel
theorem zye_X_seed : zv_ek2 zy_X_seed = true := by decide +kernel
def zf_X_seed (x1 : Int) (f0 : Int) : Option (Int × Int) := (zf_X_isWithin x1 0 65535).bind fun r1 => (if r1 = 0 then (some (0, f0)) else (some (1, x1)))
theorem zd190_0 : decode zxm190.2.1 0 = .ok (.iload_n 1, 1) := by decide +kernel
theorem zd190_1 : decode zxm190.2.1 1 = .ok (.iconst 0, 1) := by decide +kernel
theorem zd190_2 : decode zxm190.2.1 2 = .ok (.ldc_w 410, 3) := by decide +kernel
theorem zd190_5 : decode zxm190.2.1 5 = .ok (.invokestatic 126, 3) := by decide +kernel
theorem zd190_8 : decode zxm190.2.1 8 = .ok (.ifCond .ne 5, 3) := by decide +kernel
theorem zd190_11 : decode zxm190.2.1 11 = .ok (.iconst 0, 1) := by decide +kernel
theorem zd190_12 : decode zxm190.2.1 12 = .ok (.ireturn, 1) := by decide +kernel
theorem zd190_13 : decode zxm190.2.1 13 = .ok (.aload_n 0, 1) := by decide +kernel
theorem zd190_14 : decode zxm190.2.1 14 = .ok (.getfield 10, 3) := by decide +kernel
theorem zd190_17 : decode zxm190.2.1 17 = .ok (.iload_n 1, 1) := by decide +kernel
theorem zd190_18 : decode zxm190.2.1 18 = .ok (.putfield 411, 3) := by decide +kernel
theorem zd190_21 : decode zxm190.2.1 21 = .ok (.iconst 1, 1) := by decide +kernel
theorem zd190_22 : decode zxm190.2.1 22 = .ok (.ireturn, 1) := by decide +kernel
theorem zt_X_seed {x1 : Int} {f0 : Int} {o : Int × Int} (h : zf_X_seed x1 f0 = some o) : zv_Fn z_TB z_cl z_KX zy_X_seed zxm190 (1, 60) [.inr 0, .inl x1] [.inl f0] [] (some o.1) [.inl o.2] [] := zv_meth (K := (z_KF0, z_KC0, z_KL0, z_KT0, [], [], [], none)) (FT := z_FT) (MT := z_MT) (n := 2) zxp190 (z_ks0 _ (fun _ h => List.mem_cons_of_mem _ h) _ _ _ _ (fun j r h _ => by cases h)) (fun _ _ => zs_KX_p) zyw_X_seed (fun va F G h => by obtain ⟨rfl, _⟩ := h; rfl) (fun va F G h => by obtain ⟨rfl, _⟩ := h; rfl) rfl fun good va F G hB hret hvret hP => by
  obtain ⟨rfl, rfl, rfl⟩ := hP
  unfold zf_X_seed at h
  refine zv_ild hB zd190_0 rfl rfl ?_
  refine zv_con hB zd190_1 rfl ?_
  refine zv_con (n := 65535) hB zd190_2 (by decide +kernel) ?_
  obtain ⟨r1, hr1, h⟩ := zi_bind h
  refine zv_cs hB (zv_emq (va2 := [.inl x1, .inl 0, .inl 65535]) (F := [.inl f0]) (F' := [.inl f0]) (G := []) (G' := []) (ρ := []) (φ := []) (ψ := []) [none] [] zyw_X_isWithin zyw_X_seed zye_X_seed (by decide +kernel) (zt_X_isWithin hr1) trivial trivial rfl rfl rfl rfl rfl rfl rfl) zd190_5 zxt15 rfl (by decide) (by decide) rfl ?_
  refine zv_zne hB zd190_8 rfl (fun hc2 => ?_) (fun hc2 => ?_)
  · rw [if_neg hc2] at h
    refine zv_ald hB zd190_13 rfl rfl rfl ?_
    refine zv_getr hB zd190_14 rfl ?_
    refine zv_ild hB zd190_17 rfl rfl ?_
    refine zv_putf hB zd190_18 rfl rfl (fun h => by cases h) rfl ?_
    refine zv_con hB zd190_21 rfl ?_
    have hw := Option.some.inj h
    subst hw
    exact hret _ _ _ _ _ zd190_22 (by constructor <;> decide) ⟨rfl, rfl, rfl⟩
  · rw [if_pos hc2] at h
    refine zv_con hB zd190_11 rfl ?_
    have hw := Option.some.inj h
    subst hw
    exact hret _ _ _ _ _ zd190_12 (by constructor <;> decide) ⟨rfl, rfl, rfl⟩
/-! Sea_copyFrom (LStarTales$Sea;)V -/
-- names: 0 Sea('arg', 0), 1 Sea('arg', 1), 2 (0, 12)(1, 2, 0), 3 (0, 12)(0, 2, 0), 4 (0, 6)(1, 2, 2), 5 (0, 6)(0, 2, 2)
-- fields: f0 = 1.shipsTold_, f1 = 0.shipsTold_; arrays: g0 = 2, g1 = 3, g2 = 4, g3 = 5; out: [('f', 1), ('g', 1), ('g', 3)]
abbrev zy_Sea_copyFrom : zNL := (6, [(0, 2), (1, 2)], [(1, 2, 1, 0), (0, 2, 1, 1)], [(1, 2, 0, 2), (0, 2, 0, 3), (1, 2, 2, 4), (0, 2, 2, 5)], [(2, 0, 12, 0), (3, 0, 12, 1), (4, 0, 6, 2), (5, 0, 6, 3)])
theorem zyw_Sea_copyFrom : zv_wf zy_Sea_copyFrom = true := by decide +kernel
theorem zye_Sea_copyFrom : zv_ek2 zy_Sea_copyFrom = true := by decide +kernel
def zf_Sea_copyFrom (f0 : Int) (f1 : Int) (g0 : (Int → Int)) (g1 : (Int → Int)) (g2 : (Int → Int)) (g3 : (Int → Int)) : Option (Int × (Int → Int) × (Int → Int)) := some (f0, (zv_cpy g0 g1 12), (zv_cpy g2 g3 6))
theorem zd192_0 : decode zxm192.2.1 0 = .ok (.aload_n 1, 1) := by decide +kernel
theorem zd192_1 : decode zxm192.2.1 1 = .ok (.getfield 9, 3) := by decide +kernel
theorem zd192_4 : decode zxm192.2.1 4 = .ok (.iconst 0, 1) := by decide +kernel
theorem zd192_5 : decode zxm192.2.1 5 = .ok (.aload_n 0, 1) := by decide +kernel
theorem zd192_6 : decode zxm192.2.1 6 = .ok (.getfield 9, 3) := by decide +kernel
theorem zd192_9 : decode zxm192.2.1 9 = .ok (.iconst 0, 1) := by decide +kernel
theorem zd192_10 : decode zxm192.2.1 10 = .ok (.bipush 12, 2) := by decide +kernel
theorem zd192_12 : decode zxm192.2.1 12 = .ok (.invokestatic 49, 3) := by decide +kernel
theorem zd192_15 : decode zxm192.2.1 15 = .ok (.aload_n 0, 1) := by decide +kernel
theorem zd192_16 : decode zxm192.2.1 16 = .ok (.aload_n 1, 1) := by decide +kernel
theorem zd192_17 : decode zxm192.2.1 17 = .ok (.getfield 15, 3) := by decide +kernel
theorem zd192_20 : decode zxm192.2.1 20 = .ok (.putfield 15, 3) := by decide +kernel
theorem zd192_23 : decode zxm192.2.1 23 = .ok (.aload_n 1, 1) := by decide +kernel
theorem zd192_24 : decode zxm192.2.1 24 = .ok (.getfield 19, 3) := by decide +kernel
theorem zd192_27 : decode zxm192.2.1 27 = .ok (.iconst 0, 1) := by decide +kernel
theorem zd192_28 : decode zxm192.2.1 28 = .ok (.aload_n 0, 1) := by decide +kernel
theorem zd192_29 : decode zxm192.2.1 29 = .ok (.getfield 19, 3) := by decide +kernel
theorem zd192_32 : decode zxm192.2.1 32 = .ok (.iconst 0, 1) := by decide +kernel
theorem zd192_33 : decode zxm192.2.1 33 = .ok (.bipush 6, 2) := by decide +kernel
theorem zd192_35 : decode zxm192.2.1 35 = .ok (.invokestatic 49, 3) := by decide +kernel
theorem zd192_38 : decode zxm192.2.1 38 = .ok (.return_, 1) := by decide +kernel
theorem zt_Sea_copyFrom {f0 : Int} {f1 : Int} {g0 : (Int → Int)} {g1 : (Int → Int)} {g2 : (Int → Int)} {g3 : (Int → Int)} {o : Int × (Int → Int) × (Int → Int)} (h : zf_Sea_copyFrom f0 f1 g0 g1 g2 g3 = some o) : zv_Fn z_TB z_cl z_KX zy_Sea_copyFrom zxm192 (1, 60) [.inr 0, .inr 1] [.inl f0, .inl f1] [g0, g1, g2, g3] none [.inl f0, .inl o.1] [g0, o.2.1, g2, o.2.2] := zv_meth (K := (z_KF7, z_KC7, z_KL7, z_KT7, [], [], [], none)) (FT := z_FT) (MT := z_MT) (n := 2) zxp192 (z_ks7 _ (fun _ h => List.mem_cons_of_mem _ h) _ _ _ _ (fun j r h _ => by cases h)) (fun _ _ => zs_KX_p) zyw_Sea_copyFrom (fun va F G h => by obtain ⟨rfl, _⟩ := h; rfl) (fun va F G h => by obtain ⟨rfl, _⟩ := h; rfl) rfl fun good va F G hB hret hvret hP => by
  obtain ⟨rfl, rfl, rfl⟩ := hP
  unfold zf_Sea_copyFrom at h
  refine zv_ald hB zd192_0 rfl rfl rfl ?_
  refine zv_getr hB zd192_1 rfl ?_
  refine zv_con hB zd192_4 rfl ?_
  refine zv_ald hB zd192_5 rfl rfl rfl ?_
  refine zv_getr hB zd192_6 rfl ?_
  refine zv_con hB zd192_9 rfl ?_
  refine zv_con hB zd192_10 rfl ?_
  refine zv_acp hB zd192_12 (List.mem_of_getElem? (i := 8) rfl) rfl rfl rfl rfl (by decide) (by decide) (by decide) ⟨by decide, by decide⟩ ?_
  refine zv_ald hB zd192_15 rfl rfl rfl ?_
  refine zv_ald hB zd192_16 rfl rfl rfl ?_
  refine zv_getf hB zd192_17 rfl rfl (fun _ _ => ?_)
  refine zv_putf hB zd192_20 rfl rfl (fun h => by cases h) rfl ?_
  refine zv_ald hB zd192_23 rfl rfl rfl ?_
  refine zv_getr hB zd192_24 rfl ?_
  refine zv_con hB zd192_27 rfl ?_
  refine zv_ald hB zd192_28 rfl rfl rfl ?_
  refine zv_getr hB zd192_29 rfl ?_
  refine zv_con hB zd192_32 rfl ?_
  refine zv_con hB zd192_33 rfl ?_
  refine zv_acp hB zd192_35 (List.mem_of_getElem? (i := 8) rfl) rfl rfl rfl rfl (by decide) (by decide) (by decide) ⟨by decide, by decide⟩ ?_
  have hw := Option.some.inj h
  subst hw
  exact hvret _ _ _ _ zd192_38 trivial ⟨rfl, rfl, rfl⟩
/-! X_keep ()I -/
-- names: 0 StarTales('arg', 0), 1 Sky(0, 0, 1), 2 Sky(0, 0, 0), 3 (0, 24)(2, 1, 1), 4 (0, 24)(1, 1, 1), 5 (0, 24)(2, 1, 2), 6 (0, 24)(1, 1, 2), 7 (0, 24)(2, 1, 3), 8 (0, 24)(1, 1, 3), 9 (0, 24)(2, 1, 4), 10 (0, 24)(1, 1, 4), 11 (0, 24)(2, 1, 5), 12 (0, 24)(1, 1, 5), 13 Sea(0, 0, 4), 14 Sea(0, 0, 3), 15 (0, 12)(14, 2, 0), 16 (0, 12)(13, 2, 0), 17 (0, 6)(14, 2, 2), 18 (0, 6)(13, 2, 2)
-- fields: f0 = 2.told_, f1 = 1.told_, f2 = 2.hour_, f3 = 1.hour_, f4 = 2.night_, f5 = 1.night_, f6 = 2.clouds_, f7 = 1.clouds_, f8 = 2.sightColumns_, f9 = 1.sightColumns_, f10 = 2.sightRows_, f11 = 1.sightRows_, f12 = 2.chance_, f13 = 1.chance_, f14 = 14.shipsTold_, f15 = 13.shipsTold_, f16 = 0.isKept_; arrays: g0 = 3, g1 = 4, g2 = 5, g3 = 6, g4 = 7, g5 = 8, g6 = 9, g7 = 10, g8 = 11, g9 = 12, g10 = 15, g11 = 16, g12 = 17, g13 = 18; out: [('ret', None), ('f', 1), ('f', 3), ('f', 5), ('f', 7), ('f', 9), ('f', 11), ('f', 13), ('f', 15), ('f', 16), ('g', 1), ('g', 3), ('g', 5), ('g', 7), ('g', 9), ('g', 11), ('g', 13)]
abbrev zy_X_keep : zNL := (19, [(0, 0), (1, 1), (2, 1), (13, 2), (14, 2)], [(2, 1, 0, 0), (1, 1, 0, 1), (2, 1, 6, 2), (1, 1, 6, 3), (2, 1, 7, 4), (1, 1, 7, 5), (2, 1, 8, 6), (1, 1, 8, 7), (2, 1, 9, 8), (1, 1, 9, 9), (2, 1, 10, 10), (1, 1, 10, 11), (2, 1, 11, 12), (1, 1, 11, 13), (14, 2, 1, 14), (13, 2, 1, 15), (0, 0, 5, 16)], [(0, 0, 1, 1), (0, 0, 0, 2), (2, 1, 1, 3), (1, 1, 1, 4), (2, 1, 2, 5), (1, 1, 2, 6), (2, 1, 3, 7), (1, 1, 3, 8), (2, 1, 4, 9), (1, 1, 4, 10), (2, 1, 5, 11), (1, 1, 5, 12), (0, 0, 4, 13), (0, 0, 3, 14), (14, 2, 0, 15), (13, 2, 0, 16), (14, 2, 2, 17), (13, 2, 2, 18)], [(3, 0, 24, 0), (4, 0, 24, 1), (5, 0, 24, 2), (6, 0, 24, 3), (7, 0, 24, 4), (8, 0, 24, 5), (9, 0, 24, 6), (10, 0, 24, 7), (11, 0, 24, 8), (12, 0, 24, 9), (15, 0, 12, 10), (16, 0, 12, 11), (17, 0, 6, 12), (18, 0, 6, 13)])
theorem zyw_X_keep : zv_wf zy_X_keep = true := by decide +kernel
theorem zye_X_keep : zv_ek2 zy_X_keep = true := by decide +kernel
def zf_X_keep (f0 : Int) (f1 : Int) (f2 : Int) (f3 : Int) (f4 : Int) (f5 : Int) (f6 : Int) (f7 : Int) (f8 : Int) (f9 : Int) (f10 : Int) (f11 : Int) (f12 : Int) (f13 : Int) (f14 : Int) (f15 : Int) (f16 : Int) (g0 : (Int → Int)) (g1 : (Int → Int)) (g2 : (Int → Int)) (g3 : (Int → Int)) (g4 : (Int → Int)) (g5 : (Int → Int)) (g6 : (Int → Int)) (g7 : (Int → Int)) (g8 : (Int → Int)) (g9 : (Int → Int)) (g10 : (Int → Int)) (g11 : (Int → Int)) (g12 : (Int → Int)) (g13 : (Int → Int)) : Option (Int × Int × Int × Int × Int × Int × Int × Int × Int × Int × (Int → Int) × (Int → Int) × (Int → Int) × (Int → Int) × (Int → Int) × (Int → Int) × (Int → Int)) := (zf_Sky_copyFrom f0 f1 f2 f3 f4 f5 f6 f7 f8 f9 f10 f11 f12 f13 g0 g1 g2 g3 g4 g5 g6 g7 g8 g9).bind fun r1 => ((zf_Sea_copyFrom f14 f15 g10 g11 g12 g13).bind fun r2 => ((zf_Integer_bitCount f0).bind fun r3 => (some (r3, r1.1, r1.2.1, r1.2.2.1, r1.2.2.2.1, r1.2.2.2.2.1, r1.2.2.2.2.2.1, r1.2.2.2.2.2.2.1, r2.1, 1, r1.2.2.2.2.2.2.2.1, r1.2.2.2.2.2.2.2.2.1, r1.2.2.2.2.2.2.2.2.2.1, r1.2.2.2.2.2.2.2.2.2.2.1, r1.2.2.2.2.2.2.2.2.2.2.2, r2.2.1, r2.2.2))))
theorem zd191_0 : decode zxm191.2.1 0 = .ok (.aload_n 0, 1) := by decide +kernel
theorem zd191_1 : decode zxm191.2.1 1 = .ok (.getfield 16, 3) := by decide +kernel
theorem zd191_4 : decode zxm191.2.1 4 = .ok (.aload_n 0, 1) := by decide +kernel
theorem zd191_5 : decode zxm191.2.1 5 = .ok (.getfield 10, 3) := by decide +kernel
theorem zd191_8 : decode zxm191.2.1 8 = .ok (.invokevirtual 273, 3) := by decide +kernel
theorem zd191_11 : decode zxm191.2.1 11 = .ok (.aload_n 0, 1) := by decide +kernel
theorem zd191_12 : decode zxm191.2.1 12 = .ok (.getfield 29, 3) := by decide +kernel
theorem zd191_15 : decode zxm191.2.1 15 = .ok (.aload_n 0, 1) := by decide +kernel
theorem zd191_16 : decode zxm191.2.1 16 = .ok (.getfield 25, 3) := by decide +kernel
theorem zd191_19 : decode zxm191.2.1 19 = .ok (.invokevirtual 414, 3) := by decide +kernel
theorem zd191_22 : decode zxm191.2.1 22 = .ok (.aload_n 0, 1) := by decide +kernel
theorem zd191_23 : decode zxm191.2.1 23 = .ok (.iconst 1, 1) := by decide +kernel
theorem zd191_24 : decode zxm191.2.1 24 = .ok (.putfield 32, 3) := by decide +kernel
theorem zd191_27 : decode zxm191.2.1 27 = .ok (.aload_n 0, 1) := by decide +kernel
theorem zd191_28 : decode zxm191.2.1 28 = .ok (.getfield 10, 3) := by decide +kernel
theorem zd191_31 : decode zxm191.2.1 31 = .ok (.getfield 134, 3) := by decide +kernel
theorem zd191_34 : decode zxm191.2.1 34 = .ok (.invokestatic 235, 3) := by decide +kernel
theorem zd191_37 : decode zxm191.2.1 37 = .ok (.ireturn, 1) := by decide +kernel
theorem zt_X_keep {f0 : Int} {f1 : Int} {f2 : Int} {f3 : Int} {f4 : Int} {f5 : Int} {f6 : Int} {f7 : Int} {f8 : Int} {f9 : Int} {f10 : Int} {f11 : Int} {f12 : Int} {f13 : Int} {f14 : Int} {f15 : Int} {f16 : Int} {g0 : (Int → Int)} {g1 : (Int → Int)} {g2 : (Int → Int)} {g3 : (Int → Int)} {g4 : (Int → Int)} {g5 : (Int → Int)} {g6 : (Int → Int)} {g7 : (Int → Int)} {g8 : (Int → Int)} {g9 : (Int → Int)} {g10 : (Int → Int)} {g11 : (Int → Int)} {g12 : (Int → Int)} {g13 : (Int → Int)} {o : Int × Int × Int × Int × Int × Int × Int × Int × Int × Int × (Int → Int) × (Int → Int) × (Int → Int) × (Int → Int) × (Int → Int) × (Int → Int) × (Int → Int)} (h : zf_X_keep f0 f1 f2 f3 f4 f5 f6 f7 f8 f9 f10 f11 f12 f13 f14 f15 f16 g0 g1 g2 g3 g4 g5 g6 g7 g8 g9 g10 g11 g12 g13 = some o) : zv_Fn z_TB z_cl z_KX zy_X_keep zxm191 (2, 120) [.inr 0] [.inl f0, .inl f1, .inl f2, .inl f3, .inl f4, .inl f5, .inl f6, .inl f7, .inl f8, .inl f9, .inl f10, .inl f11, .inl f12, .inl f13, .inl f14, .inl f15, .inl f16] [g0, g1, g2, g3, g4, g5, g6, g7, g8, g9, g10, g11, g12, g13] (some o.1) [.inl f0, .inl o.2.1, .inl f2, .inl o.2.2.1, .inl f4, .inl o.2.2.2.1, .inl f6, .inl o.2.2.2.2.1, .inl f8, .inl o.2.2.2.2.2.1, .inl f10, .inl o.2.2.2.2.2.2.1, .inl f12, .inl o.2.2.2.2.2.2.2.1, .inl f14, .inl o.2.2.2.2.2.2.2.2.1, .inl o.2.2.2.2.2.2.2.2.2.1] [g0, o.2.2.2.2.2.2.2.2.2.2.1, g2, o.2.2.2.2.2.2.2.2.2.2.2.1, g4, o.2.2.2.2.2.2.2.2.2.2.2.2.1, g6, o.2.2.2.2.2.2.2.2.2.2.2.2.2.1, g8, o.2.2.2.2.2.2.2.2.2.2.2.2.2.2.1, g10, o.2.2.2.2.2.2.2.2.2.2.2.2.2.2.2.1, g12, o.2.2.2.2.2.2.2.2.2.2.2.2.2.2.2.2] := zv_meth (K := (z_KF0, z_KC0, z_KL0, z_KT0, [], [], [], none)) (FT := z_FT) (MT := z_MT) (n := 1) zxp191 (z_ks0 _ (fun _ h => List.mem_cons_of_mem _ h) _ _ _ _ (fun j r h _ => by cases h)) (fun _ _ => zs_KX_p) zyw_X_keep (fun va F G h => by obtain ⟨rfl, _⟩ := h; rfl) (fun va F G h => by obtain ⟨rfl, _⟩ := h; rfl) rfl fun good va F G hB hret hvret hP => by
  obtain ⟨rfl, rfl, rfl⟩ := hP
  unfold zf_X_keep at h
  refine zv_ald hB zd191_0 rfl rfl rfl ?_
  refine zv_getr hB zd191_1 rfl ?_
  refine zv_ald hB zd191_4 rfl rfl rfl ?_
  refine zv_getr hB zd191_5 rfl ?_
  obtain ⟨r1, hr1, h⟩ := zi_bind h
  refine zv_cv hB (zv_emq (va2 := [.inr 1, .inr 2]) (F := [.inl f0, .inl f1, .inl f2, .inl f3, .inl f4, .inl f5, .inl f6, .inl f7, .inl f8, .inl f9, .inl f10, .inl f11, .inl f12, .inl f13, .inl f14, .inl f15, .inl f16]) (F' := [.inl f0, .inl r1.1, .inl f2, .inl r1.2.1, .inl f4, .inl r1.2.2.1, .inl f6, .inl r1.2.2.2.1, .inl f8, .inl r1.2.2.2.2.1, .inl f10, .inl r1.2.2.2.2.2.1, .inl f12, .inl r1.2.2.2.2.2.2.1, .inl f14, .inl f15, .inl f16]) (G := [g0, g1, g2, g3, g4, g5, g6, g7, g8, g9, g10, g11, g12, g13]) (G' := [g0, r1.2.2.2.2.2.2.2.1, g2, r1.2.2.2.2.2.2.2.2.1, g4, r1.2.2.2.2.2.2.2.2.2.1, g6, r1.2.2.2.2.2.2.2.2.2.2.1, g8, r1.2.2.2.2.2.2.2.2.2.2.2, g10, g11, g12, g13]) (ρ := [1, 2, 3, 4, 5, 6, 7, 8, 9, 10, 11, 12]) (φ := [0, 1, 2, 3, 4, 5, 6, 7, 8, 9, 10, 11, 12, 13]) (ψ := [0, 1, 2, 3, 4, 5, 6, 7, 8, 9]) [some 0, some 1, some 2, some 3, some 4, some 5, some 6, some 7, some 8, some 9, some 10, some 11, some 12, some 13, none, none, none] [some 0, some 1, some 2, some 3, some 4, some 5, some 6, some 7, some 8, some 9, none, none, none, none] zyw_Sky_copyFrom zyw_X_keep zye_X_keep (by decide +kernel) (zt_Sky_copyFrom hr1) ⟨⟨_, rfl, fun _ => rfl⟩, ⟨_, rfl, fun _ => rfl⟩, ⟨_, rfl, fun _ => rfl⟩, ⟨_, rfl, fun _ => rfl⟩, ⟨_, rfl, fun _ => rfl⟩, ⟨_, rfl, fun _ => rfl⟩, ⟨_, rfl, fun _ => rfl⟩, ⟨_, rfl, fun _ => rfl⟩, ⟨_, rfl, fun _ => rfl⟩, ⟨_, rfl, fun _ => rfl⟩, ⟨_, rfl, fun _ => rfl⟩, ⟨_, rfl, fun _ => rfl⟩, ⟨_, rfl, fun _ => rfl⟩, ⟨_, rfl, fun _ => rfl⟩, trivial⟩ ⟨rfl, rfl, rfl, rfl, rfl, rfl, rfl, rfl, rfl, rfl, trivial⟩ rfl rfl rfl rfl rfl rfl rfl) zd191_8 zxt125 rfl (by decide) (by decide) rfl ?_
  refine zv_ald hB zd191_11 rfl rfl rfl ?_
  refine zv_getr hB zd191_12 rfl ?_
  refine zv_ald hB zd191_15 rfl rfl rfl ?_
  refine zv_getr hB zd191_16 rfl ?_
  obtain ⟨r2, hr2, h⟩ := zi_bind h
  refine zv_cv hB (zv_emq (va2 := [.inr 13, .inr 14]) (F := [.inl f0, .inl r1.1, .inl f2, .inl r1.2.1, .inl f4, .inl r1.2.2.1, .inl f6, .inl r1.2.2.2.1, .inl f8, .inl r1.2.2.2.2.1, .inl f10, .inl r1.2.2.2.2.2.1, .inl f12, .inl r1.2.2.2.2.2.2.1, .inl f14, .inl f15, .inl f16]) (F' := [.inl f0, .inl r1.1, .inl f2, .inl r1.2.1, .inl f4, .inl r1.2.2.1, .inl f6, .inl r1.2.2.2.1, .inl f8, .inl r1.2.2.2.2.1, .inl f10, .inl r1.2.2.2.2.2.1, .inl f12, .inl r1.2.2.2.2.2.2.1, .inl f14, .inl r2.1, .inl f16]) (G := [g0, r1.2.2.2.2.2.2.2.1, g2, r1.2.2.2.2.2.2.2.2.1, g4, r1.2.2.2.2.2.2.2.2.2.1, g6, r1.2.2.2.2.2.2.2.2.2.2.1, g8, r1.2.2.2.2.2.2.2.2.2.2.2, g10, g11, g12, g13]) (G' := [g0, r1.2.2.2.2.2.2.2.1, g2, r1.2.2.2.2.2.2.2.2.1, g4, r1.2.2.2.2.2.2.2.2.2.1, g6, r1.2.2.2.2.2.2.2.2.2.2.1, g8, r1.2.2.2.2.2.2.2.2.2.2.2, g10, r2.2.1, g12, r2.2.2]) (ρ := [13, 14, 15, 16, 17, 18]) (φ := [14, 15]) (ψ := [10, 11, 12, 13]) [none, none, none, none, none, none, none, none, none, none, none, none, none, none, some 0, some 1, none] [none, none, none, none, none, none, none, none, none, none, some 0, some 1, some 2, some 3] zyw_Sea_copyFrom zyw_X_keep zye_X_keep (by decide +kernel) (zt_Sea_copyFrom hr2) ⟨⟨_, rfl, fun _ => rfl⟩, ⟨_, rfl, fun _ => rfl⟩, trivial⟩ ⟨rfl, rfl, rfl, rfl, trivial⟩ rfl rfl rfl rfl rfl rfl rfl) zd191_19 zxt192 rfl (by decide) (by decide) rfl ?_
  refine zv_ald hB zd191_22 rfl rfl rfl ?_
  refine zv_con hB zd191_23 rfl ?_
  refine zv_putf hB zd191_24 rfl rfl (fun _ => by decide) rfl ?_
  refine zv_ald hB zd191_27 rfl rfl rfl ?_
  refine zv_getr hB zd191_28 rfl ?_
  refine zv_getf hB zd191_31 rfl rfl (fun _ _ => ?_)
  obtain ⟨r3, hr3, h⟩ := zi_bind h
  refine zv_cs hB (zv_emq (va2 := [.inl f0]) (F := [.inl f0, .inl r1.1, .inl f2, .inl r1.2.1, .inl f4, .inl r1.2.2.1, .inl f6, .inl r1.2.2.2.1, .inl f8, .inl r1.2.2.2.2.1, .inl f10, .inl r1.2.2.2.2.2.1, .inl f12, .inl r1.2.2.2.2.2.2.1, .inl f14, .inl r2.1, .inl 1]) (F' := [.inl f0, .inl r1.1, .inl f2, .inl r1.2.1, .inl f4, .inl r1.2.2.1, .inl f6, .inl r1.2.2.2.1, .inl f8, .inl r1.2.2.2.2.1, .inl f10, .inl r1.2.2.2.2.2.1, .inl f12, .inl r1.2.2.2.2.2.2.1, .inl f14, .inl r2.1, .inl 1]) (G := [g0, r1.2.2.2.2.2.2.2.1, g2, r1.2.2.2.2.2.2.2.2.1, g4, r1.2.2.2.2.2.2.2.2.2.1, g6, r1.2.2.2.2.2.2.2.2.2.2.1, g8, r1.2.2.2.2.2.2.2.2.2.2.2, g10, r2.2.1, g12, r2.2.2]) (G' := [g0, r1.2.2.2.2.2.2.2.1, g2, r1.2.2.2.2.2.2.2.2.1, g4, r1.2.2.2.2.2.2.2.2.2.1, g6, r1.2.2.2.2.2.2.2.2.2.2.1, g8, r1.2.2.2.2.2.2.2.2.2.2.2, g10, r2.2.1, g12, r2.2.2]) (ρ := []) (φ := []) (ψ := []) [none, none, none, none, none, none, none, none, none, none, none, none, none, none, none, none, none] [none, none, none, none, none, none, none, none, none, none, none, none, none, none] zyw_Integer_bitCount zyw_X_keep zye_X_keep (by decide +kernel) (zt_Integer_bitCount hr3) trivial trivial rfl rfl rfl rfl rfl rfl rfl) zd191_34 zxt102 rfl (by decide) (by decide) rfl ?_
  have hw := Option.some.inj h
  subst hw
  exact hret _ _ _ _ _ zd191_37 (by trivial) ⟨rfl, rfl, rfl⟩
/-! X_undo ()Z -/
-- names: 0 StarTales('arg', 0), 1 Sky(0, 0, 0), 2 Sky(0, 0, 1), 3 (0, 24)(2, 1, 1), 4 (0, 24)(1, 1, 1), 5 (0, 24)(2, 1, 2), 6 (0, 24)(1, 1, 2), 7 (0, 24)(2, 1, 3), 8 (0, 24)(1, 1, 3), 9 (0, 24)(2, 1, 4), 10 (0, 24)(1, 1, 4), 11 (0, 24)(2, 1, 5), 12 (0, 24)(1, 1, 5), 13 Sea(0, 0, 3), 14 Sea(0, 0, 4), 15 (0, 12)(14, 2, 0), 16 (0, 12)(13, 2, 0), 17 (0, 6)(14, 2, 2), 18 (0, 6)(13, 2, 2)
-- fields: f0 = 0.isKept_, f1 = 2.told_, f2 = 1.told_, f3 = 2.hour_, f4 = 1.hour_, f5 = 2.night_, f6 = 1.night_, f7 = 2.clouds_, f8 = 1.clouds_, f9 = 2.sightColumns_, f10 = 1.sightColumns_, f11 = 2.sightRows_, f12 = 1.sightRows_, f13 = 2.chance_, f14 = 1.chance_, f15 = 14.shipsTold_, f16 = 13.shipsTold_; arrays: g0 = 3, g1 = 4, g2 = 5, g3 = 6, g4 = 7, g5 = 8, g6 = 9, g7 = 10, g8 = 11, g9 = 12, g10 = 15, g11 = 16, g12 = 17, g13 = 18; out: [('ret', None), ('f', 2), ('f', 4), ('f', 6), ('f', 8), ('f', 10), ('f', 12), ('f', 14), ('f', 16), ('g', 1), ('g', 3), ('g', 5), ('g', 7), ('g', 9), ('g', 11), ('g', 13)]
abbrev zy_X_undo : zNL := (19, [(0, 0), (1, 1), (2, 1), (13, 2), (14, 2)], [(0, 0, 5, 0), (2, 1, 0, 1), (1, 1, 0, 2), (2, 1, 6, 3), (1, 1, 6, 4), (2, 1, 7, 5), (1, 1, 7, 6), (2, 1, 8, 7), (1, 1, 8, 8), (2, 1, 9, 9), (1, 1, 9, 10), (2, 1, 10, 11), (1, 1, 10, 12), (2, 1, 11, 13), (1, 1, 11, 14), (14, 2, 1, 15), (13, 2, 1, 16)], [(0, 0, 0, 1), (0, 0, 1, 2), (2, 1, 1, 3), (1, 1, 1, 4), (2, 1, 2, 5), (1, 1, 2, 6), (2, 1, 3, 7), (1, 1, 3, 8), (2, 1, 4, 9), (1, 1, 4, 10), (2, 1, 5, 11), (1, 1, 5, 12), (0, 0, 3, 13), (0, 0, 4, 14), (14, 2, 0, 15), (13, 2, 0, 16), (14, 2, 2, 17), (13, 2, 2, 18)], [(3, 0, 24, 0), (4, 0, 24, 1), (5, 0, 24, 2), (6, 0, 24, 3), (7, 0, 24, 4), (8, 0, 24, 5), (9, 0, 24, 6), (10, 0, 24, 7), (11, 0, 24, 8), (12, 0, 24, 9), (15, 0, 12, 10), (16, 0, 12, 11), (17, 0, 6, 12), (18, 0, 6, 13)])
theorem zyw_X_undo : zv_wf zy_X_undo = true := by decide +kernel
theorem zye_X_undo : zv_ek2 zy_X_undo = true := by decide +kernel
def zf_X_undo (f0 : Int) (f1 : Int) (f2 : Int) (f3 : Int) (f4 : Int) (f5 : Int) (f6 : Int) (f7 : Int) (f8 : Int) (f9 : Int) (f10 : Int) (f11 : Int) (f12 : Int) (f13 : Int) (f14 : Int) (f15 : Int) (f16 : Int) (g0 : (Int → Int)) (g1 : (Int → Int)) (g2 : (Int → Int)) (g3 : (Int → Int)) (g4 : (Int → Int)) (g5 : (Int → Int)) (g6 : (Int → Int)) (g7 : (Int → Int)) (g8 : (Int → Int)) (g9 : (Int → Int)) (g10 : (Int → Int)) (g11 : (Int → Int)) (g12 : (Int → Int)) (g13 : (Int → Int)) : Option (Int × Int × Int × Int × Int × Int × Int × Int × Int × (Int → Int) × (Int → Int) × (Int → Int) × (Int → Int) × (Int → Int) × (Int → Int) × (Int → Int)) := if f0 = 0 then (some (0, f2, f4, f6, f8, f10, f12, f14, f16, g1, g3, g5, g7, g9, g11, g13)) else ((zf_Sky_copyFrom f1 f2 f3 f4 f5 f6 f7 f8 f9 f10 f11 f12 f13 f14 g0 g1 g2 g3 g4 g5 g6 g7 g8 g9).bind fun r2 => ((zf_Sea_copyFrom f15 f16 g10 g11 g12 g13).bind fun r3 => (some (1, r2.1, r2.2.1, r2.2.2.1, r2.2.2.2.1, r2.2.2.2.2.1, r2.2.2.2.2.2.1, r2.2.2.2.2.2.2.1, r3.1, r2.2.2.2.2.2.2.2.1, r2.2.2.2.2.2.2.2.2.1, r2.2.2.2.2.2.2.2.2.2.1, r2.2.2.2.2.2.2.2.2.2.2.1, r2.2.2.2.2.2.2.2.2.2.2.2, r3.2.1, r3.2.2))))
theorem zd193_0 : decode zxm193.2.1 0 = .ok (.aload_n 0, 1) := by decide +kernel
theorem zd193_1 : decode zxm193.2.1 1 = .ok (.getfield 32, 3) := by decide +kernel
theorem zd193_4 : decode zxm193.2.1 4 = .ok (.ifCond .ne 5, 3) := by decide +kernel
theorem zd193_7 : decode zxm193.2.1 7 = .ok (.iconst 0, 1) := by decide +kernel
theorem zd193_8 : decode zxm193.2.1 8 = .ok (.ireturn, 1) := by decide +kernel
theorem zd193_9 : decode zxm193.2.1 9 = .ok (.aload_n 0, 1) := by decide +kernel
theorem zd193_10 : decode zxm193.2.1 10 = .ok (.getfield 10, 3) := by decide +kernel
theorem zd193_13 : decode zxm193.2.1 13 = .ok (.aload_n 0, 1) := by decide +kernel
theorem zd193_14 : decode zxm193.2.1 14 = .ok (.getfield 16, 3) := by decide +kernel
theorem zd193_17 : decode zxm193.2.1 17 = .ok (.invokevirtual 273, 3) := by decide +kernel
theorem zd193_20 : decode zxm193.2.1 20 = .ok (.aload_n 0, 1) := by decide +kernel
theorem zd193_21 : decode zxm193.2.1 21 = .ok (.getfield 25, 3) := by decide +kernel
theorem zd193_24 : decode zxm193.2.1 24 = .ok (.aload_n 0, 1) := by decide +kernel
theorem zd193_25 : decode zxm193.2.1 25 = .ok (.getfield 29, 3) := by decide +kernel
theorem zd193_28 : decode zxm193.2.1 28 = .ok (.invokevirtual 414, 3) := by decide +kernel
theorem zd193_31 : decode zxm193.2.1 31 = .ok (.iconst 1, 1) := by decide +kernel
theorem zd193_32 : decode zxm193.2.1 32 = .ok (.ireturn, 1) := by decide +kernel
theorem zt_X_undo {f0 : Int} {f1 : Int} {f2 : Int} {f3 : Int} {f4 : Int} {f5 : Int} {f6 : Int} {f7 : Int} {f8 : Int} {f9 : Int} {f10 : Int} {f11 : Int} {f12 : Int} {f13 : Int} {f14 : Int} {f15 : Int} {f16 : Int} {g0 : (Int → Int)} {g1 : (Int → Int)} {g2 : (Int → Int)} {g3 : (Int → Int)} {g4 : (Int → Int)} {g5 : (Int → Int)} {g6 : (Int → Int)} {g7 : (Int → Int)} {g8 : (Int → Int)} {g9 : (Int → Int)} {g10 : (Int → Int)} {g11 : (Int → Int)} {g12 : (Int → Int)} {g13 : (Int → Int)} {o : Int × Int × Int × Int × Int × Int × Int × Int × Int × (Int → Int) × (Int → Int) × (Int → Int) × (Int → Int) × (Int → Int) × (Int → Int) × (Int → Int)} (h : zf_X_undo f0 f1 f2 f3 f4 f5 f6 f7 f8 f9 f10 f11 f12 f13 f14 f15 f16 g0 g1 g2 g3 g4 g5 g6 g7 g8 g9 g10 g11 g12 g13 = some o) : zv_Fn z_TB z_cl z_KX zy_X_undo zxm193 (2, 120) [.inr 0] [.inl f0, .inl f1, .inl f2, .inl f3, .inl f4, .inl f5, .inl f6, .inl f7, .inl f8, .inl f9, .inl f10, .inl f11, .inl f12, .inl f13, .inl f14, .inl f15, .inl f16] [g0, g1, g2, g3, g4, g5, g6, g7, g8, g9, g10, g11, g12, g13] (some o.1) [.inl f0, .inl f1, .inl o.2.1, .inl f3, .inl o.2.2.1, .inl f5, .inl o.2.2.2.1, .inl f7, .inl o.2.2.2.2.1, .inl f9, .inl o.2.2.2.2.2.1, .inl f11, .inl o.2.2.2.2.2.2.1, .inl f13, .inl o.2.2.2.2.2.2.2.1, .inl f15, .inl o.2.2.2.2.2.2.2.2.1] [g0, o.2.2.2.2.2.2.2.2.2.1, g2, o.2.2.2.2.2.2.2.2.2.2.1, g4, o.2.2.2.2.2.2.2.2.2.2.2.1, g6, o.2.2.2.2.2.2.2.2.2.2.2.2.1, g8, o.2.2.2.2.2.2.2.2.2.2.2.2.2.1, g10, o.2.2.2.2.2.2.2.2.2.2.2.2.2.2.1, g12, o.2.2.2.2.2.2.2.2.2.2.2.2.2.2.2] := zv_meth (K := (z_KF0, z_KC0, z_KL0, z_KT0, [], [], [], none)) (FT := z_FT) (MT := z_MT) (n := 1) zxp193 (z_ks0 _ (fun _ h => List.mem_cons_of_mem _ h) _ _ _ _ (fun j r h _ => by cases h)) (fun _ _ => zs_KX_p) zyw_X_undo (fun va F G h => by obtain ⟨rfl, _⟩ := h; rfl) (fun va F G h => by obtain ⟨rfl, _⟩ := h; rfl) rfl fun good va F G hB hret hvret hP => by
  obtain ⟨rfl, rfl, rfl⟩ := hP
  unfold zf_X_undo at h
  refine zv_ald hB zd193_0 rfl rfl rfl ?_
  refine zv_getf hB zd193_1 rfl rfl (fun _ _ => ?_)
  refine zv_zne hB zd193_4 rfl (fun hc1 => ?_) (fun hc1 => ?_)
  · rw [if_neg hc1] at h
    refine zv_ald hB zd193_9 rfl rfl rfl ?_
    refine zv_getr hB zd193_10 rfl ?_
    refine zv_ald hB zd193_13 rfl rfl rfl ?_
    refine zv_getr hB zd193_14 rfl ?_
    obtain ⟨r2, hr2, h⟩ := zi_bind h
    refine zv_cv hB (zv_emq (va2 := [.inr 1, .inr 2]) (F := [.inl f0, .inl f1, .inl f2, .inl f3, .inl f4, .inl f5, .inl f6, .inl f7, .inl f8, .inl f9, .inl f10, .inl f11, .inl f12, .inl f13, .inl f14, .inl f15, .inl f16]) (F' := [.inl f0, .inl f1, .inl r2.1, .inl f3, .inl r2.2.1, .inl f5, .inl r2.2.2.1, .inl f7, .inl r2.2.2.2.1, .inl f9, .inl r2.2.2.2.2.1, .inl f11, .inl r2.2.2.2.2.2.1, .inl f13, .inl r2.2.2.2.2.2.2.1, .inl f15, .inl f16]) (G := [g0, g1, g2, g3, g4, g5, g6, g7, g8, g9, g10, g11, g12, g13]) (G' := [g0, r2.2.2.2.2.2.2.2.1, g2, r2.2.2.2.2.2.2.2.2.1, g4, r2.2.2.2.2.2.2.2.2.2.1, g6, r2.2.2.2.2.2.2.2.2.2.2.1, g8, r2.2.2.2.2.2.2.2.2.2.2.2, g10, g11, g12, g13]) (ρ := [1, 2, 3, 4, 5, 6, 7, 8, 9, 10, 11, 12]) (φ := [1, 2, 3, 4, 5, 6, 7, 8, 9, 10, 11, 12, 13, 14]) (ψ := [0, 1, 2, 3, 4, 5, 6, 7, 8, 9]) [none, some 0, some 1, some 2, some 3, some 4, some 5, some 6, some 7, some 8, some 9, some 10, some 11, some 12, some 13, none, none] [some 0, some 1, some 2, some 3, some 4, some 5, some 6, some 7, some 8, some 9, none, none, none, none] zyw_Sky_copyFrom zyw_X_undo zye_X_undo (by decide +kernel) (zt_Sky_copyFrom hr2) ⟨⟨_, rfl, fun _ => rfl⟩, ⟨_, rfl, fun _ => rfl⟩, ⟨_, rfl, fun _ => rfl⟩, ⟨_, rfl, fun _ => rfl⟩, ⟨_, rfl, fun _ => rfl⟩, ⟨_, rfl, fun _ => rfl⟩, ⟨_, rfl, fun _ => rfl⟩, ⟨_, rfl, fun _ => rfl⟩, ⟨_, rfl, fun _ => rfl⟩, ⟨_, rfl, fun _ => rfl⟩, ⟨_, rfl, fun _ => rfl⟩, ⟨_, rfl, fun _ => rfl⟩, ⟨_, rfl, fun _ => rfl⟩, ⟨_, rfl, fun _ => rfl⟩, trivial⟩ ⟨rfl, rfl, rfl, rfl, rfl, rfl, rfl, rfl, rfl, rfl, trivial⟩ rfl rfl rfl rfl rfl rfl rfl) zd193_17 zxt125 rfl (by decide) (by decide) rfl ?_
    refine zv_ald hB zd193_20 rfl rfl rfl ?_
    refine zv_getr hB zd193_21 rfl ?_
    refine zv_ald hB zd193_24 rfl rfl rfl ?_
    refine zv_getr hB zd193_25 rfl ?_
    obtain ⟨r3, hr3, h⟩ := zi_bind h
    refine zv_cv hB (zv_emq (va2 := [.inr 13, .inr 14]) (F := [.inl f0, .inl f1, .inl r2.1, .inl f3, .inl r2.2.1, .inl f5, .inl r2.2.2.1, .inl f7, .inl r2.2.2.2.1, .inl f9, .inl r2.2.2.2.2.1, .inl f11, .inl r2.2.2.2.2.2.1, .inl f13, .inl r2.2.2.2.2.2.2.1, .inl f15, .inl f16]) (F' := [.inl f0, .inl f1, .inl r2.1, .inl f3, .inl r2.2.1, .inl f5, .inl r2.2.2.1, .inl f7, .inl r2.2.2.2.1, .inl f9, .inl r2.2.2.2.2.1, .inl f11, .inl r2.2.2.2.2.2.1, .inl f13, .inl r2.2.2.2.2.2.2.1, .inl f15, .inl r3.1]) (G := [g0, r2.2.2.2.2.2.2.2.1, g2, r2.2.2.2.2.2.2.2.2.1, g4, r2.2.2.2.2.2.2.2.2.2.1, g6, r2.2.2.2.2.2.2.2.2.2.2.1, g8, r2.2.2.2.2.2.2.2.2.2.2.2, g10, g11, g12, g13]) (G' := [g0, r2.2.2.2.2.2.2.2.1, g2, r2.2.2.2.2.2.2.2.2.1, g4, r2.2.2.2.2.2.2.2.2.2.1, g6, r2.2.2.2.2.2.2.2.2.2.2.1, g8, r2.2.2.2.2.2.2.2.2.2.2.2, g10, r3.2.1, g12, r3.2.2]) (ρ := [13, 14, 15, 16, 17, 18]) (φ := [15, 16]) (ψ := [10, 11, 12, 13]) [none, none, none, none, none, none, none, none, none, none, none, none, none, none, none, some 0, some 1] [none, none, none, none, none, none, none, none, none, none, some 0, some 1, some 2, some 3] zyw_Sea_copyFrom zyw_X_undo zye_X_undo (by decide +kernel) (zt_Sea_copyFrom hr3) ⟨⟨_, rfl, fun _ => rfl⟩, ⟨_, rfl, fun _ => rfl⟩, trivial⟩ ⟨rfl, rfl, rfl, rfl, trivial⟩ rfl rfl rfl rfl rfl rfl rfl) zd193_28 zxt192 rfl (by decide) (by decide) rfl ?_
    refine zv_con hB zd193_31 rfl ?_
    have hw := Option.some.inj h
    subst hw
    exact hret _ _ _ _ _ zd193_32 (by constructor <;> decide) ⟨rfl, rfl, rfl⟩
  · rw [if_pos hc1] at h
    refine zv_con hB zd193_7 rfl ?_
    have hw := Option.some.inj h
    subst hw
    exact hret _ _ _ _ _ zd193_8 (by constructor <;> decide) ⟨rfl, rfl, rfl⟩
/-! Tape_numberAt (I)I -/
-- names: 0 Tape('arg', 0), 1 (0, 220)(0, 3, 0)
-- fields: ; arrays: g0 = 1; out: [('ret', None)]
abbrev zy_Tape_numberAt : zNL := (2, [(0, 3)], [], [(0, 3, 0, 1)], [(1, 0, 220, 0)])
theorem zyw_Tape_numberAt : zv_wf zy_Tape_numberAt = true := by decide +kernel
theorem zye_Tape_numberAt : zv_ek2 zy_Tape_numberAt = true := by decide +kernel
def zf_Tape_numberAt (x1 : Int) (g0 : (Int → Int)) : Option (Int) := (zf_Tape_byteAt (zi_w (4 * x1)) g0).bind fun r1 => ((zf_Tape_byteAt (zi_w ((zi_w (4 * x1)) + 1)) g0).bind fun r2 => ((zf_Tape_byteAt (zi_w ((zi_w (4 * x1)) + 2)) g0).bind fun r3 => ((zf_Tape_byteAt (zi_w ((zi_w (4 * x1)) + 3)) g0).bind fun r4 => (some (zi_or (zi_or (zi_or (zi_shl r1 24) (zi_shl r2 16)) (zi_shl r3 8)) r4)))))
theorem zd195_0 : decode zxm195.2.1 0 = .ok (.aload_n 0, 1) := by decide +kernel
theorem zd195_1 : decode zxm195.2.1 1 = .ok (.iconst 4, 1) := by decide +kernel
theorem zd195_2 : decode zxm195.2.1 2 = .ok (.iload_n 1, 1) := by decide +kernel
theorem zd195_3 : decode zxm195.2.1 3 = .ok (.imul, 1) := by decide +kernel
theorem zd195_4 : decode zxm195.2.1 4 = .ok (.invokevirtual 17, 3) := by decide +kernel
theorem zd195_7 : decode zxm195.2.1 7 = .ok (.bipush 24, 2) := by decide +kernel
theorem zd195_9 : decode zxm195.2.1 9 = .ok (.ishl, 1) := by decide +kernel
theorem zd195_10 : decode zxm195.2.1 10 = .ok (.aload_n 0, 1) := by decide +kernel
theorem zd195_11 : decode zxm195.2.1 11 = .ok (.iconst 4, 1) := by decide +kernel
theorem zd195_12 : decode zxm195.2.1 12 = .ok (.iload_n 1, 1) := by decide +kernel
theorem zd195_13 : decode zxm195.2.1 13 = .ok (.imul, 1) := by decide +kernel
theorem zd195_14 : decode zxm195.2.1 14 = .ok (.iconst 1, 1) := by decide +kernel
theorem zd195_15 : decode zxm195.2.1 15 = .ok (.iadd, 1) := by decide +kernel
theorem zd195_16 : decode zxm195.2.1 16 = .ok (.invokevirtual 17, 3) := by decide +kernel
theorem zd195_19 : decode zxm195.2.1 19 = .ok (.bipush 16, 2) := by decide +kernel
theorem zd195_21 : decode zxm195.2.1 21 = .ok (.ishl, 1) := by decide +kernel
theorem zd195_22 : decode zxm195.2.1 22 = .ok (.ior, 1) := by decide +kernel
theorem zd195_23 : decode zxm195.2.1 23 = .ok (.aload_n 0, 1) := by decide +kernel
theorem zd195_24 : decode zxm195.2.1 24 = .ok (.iconst 4, 1) := by decide +kernel
theorem zd195_25 : decode zxm195.2.1 25 = .ok (.iload_n 1, 1) := by decide +kernel
theorem zd195_26 : decode zxm195.2.1 26 = .ok (.imul, 1) := by decide +kernel
theorem zd195_27 : decode zxm195.2.1 27 = .ok (.iconst 2, 1) := by decide +kernel
theorem zd195_28 : decode zxm195.2.1 28 = .ok (.iadd, 1) := by decide +kernel
theorem zd195_29 : decode zxm195.2.1 29 = .ok (.invokevirtual 17, 3) := by decide +kernel
theorem zd195_32 : decode zxm195.2.1 32 = .ok (.bipush 8, 2) := by decide +kernel
theorem zd195_34 : decode zxm195.2.1 34 = .ok (.ishl, 1) := by decide +kernel
theorem zd195_35 : decode zxm195.2.1 35 = .ok (.ior, 1) := by decide +kernel
theorem zd195_36 : decode zxm195.2.1 36 = .ok (.aload_n 0, 1) := by decide +kernel
theorem zd195_37 : decode zxm195.2.1 37 = .ok (.iconst 4, 1) := by decide +kernel
theorem zd195_38 : decode zxm195.2.1 38 = .ok (.iload_n 1, 1) := by decide +kernel
theorem zd195_39 : decode zxm195.2.1 39 = .ok (.imul, 1) := by decide +kernel
theorem zd195_40 : decode zxm195.2.1 40 = .ok (.iconst 3, 1) := by decide +kernel
theorem zd195_41 : decode zxm195.2.1 41 = .ok (.iadd, 1) := by decide +kernel
theorem zd195_42 : decode zxm195.2.1 42 = .ok (.invokevirtual 17, 3) := by decide +kernel
theorem zd195_45 : decode zxm195.2.1 45 = .ok (.ior, 1) := by decide +kernel
theorem zd195_46 : decode zxm195.2.1 46 = .ok (.ireturn, 1) := by decide +kernel
theorem zt_Tape_numberAt {x1 : Int} {g0 : (Int → Int)} {o : Int} (h : zf_Tape_numberAt x1 g0 = some o) : zv_Fn z_TB z_cl z_KX zy_Tape_numberAt zxm195 (1, 60) [.inr 0, .inl x1] [] [g0] (some o) [] [g0] := zv_meth (K := (z_KF10, z_KC10, z_KL10, z_KT10, [], [], [], none)) (FT := z_FT) (MT := z_MT) (n := 2) zxp195 (z_ks10 _ (fun _ h => List.mem_cons_of_mem _ h) _ _ _ _ (fun j r h _ => by cases h)) (fun _ _ => zs_KX_p) zyw_Tape_numberAt (fun va F G h => by obtain ⟨rfl, _⟩ := h; rfl) (fun va F G h => by obtain ⟨rfl, _⟩ := h; rfl) rfl fun good va F G hB hret hvret hP => by
  obtain ⟨rfl, rfl, rfl⟩ := hP
  unfold zf_Tape_numberAt at h
  refine zv_ald hB zd195_0 rfl rfl rfl ?_
  refine zv_con hB zd195_1 rfl ?_
  refine zv_ild hB zd195_2 rfl rfl ?_
  refine zv_mulw hB zd195_3 ?_
  obtain ⟨r1, hr1, h⟩ := zi_bind h
  refine zv_cv hB (zv_emq (va2 := [.inr 0, .inl (zi_w (4 * x1))]) (F := []) (F' := []) (G := [g0]) (G' := [g0]) (ρ := [0, 1]) (φ := []) (ψ := [0]) [] [some 0] zyw_Tape_byteAt zyw_Tape_numberAt zye_Tape_numberAt (by decide +kernel) (zt_Tape_byteAt hr1) trivial ⟨rfl, trivial⟩ rfl rfl rfl rfl rfl rfl rfl) zd195_4 zxt138 rfl (by decide) (by decide) rfl ?_
  refine zv_con hB zd195_7 rfl ?_
  refine zv_shlw hB zd195_9 ?_
  refine zv_ald hB zd195_10 rfl rfl rfl ?_
  refine zv_con hB zd195_11 rfl ?_
  refine zv_ild hB zd195_12 rfl rfl ?_
  refine zv_mulw hB zd195_13 ?_
  refine zv_con hB zd195_14 rfl ?_
  refine zv_addw hB zd195_15 ?_
  obtain ⟨r2, hr2, h⟩ := zi_bind h
  refine zv_cv hB (zv_emq (va2 := [.inr 0, .inl (zi_w ((zi_w (4 * x1)) + 1))]) (F := []) (F' := []) (G := [g0]) (G' := [g0]) (ρ := [0, 1]) (φ := []) (ψ := [0]) [] [some 0] zyw_Tape_byteAt zyw_Tape_numberAt zye_Tape_numberAt (by decide +kernel) (zt_Tape_byteAt hr2) trivial ⟨rfl, trivial⟩ rfl rfl rfl rfl rfl rfl rfl) zd195_16 zxt138 rfl (by decide) (by decide) rfl ?_
  refine zv_con hB zd195_19 rfl ?_
  refine zv_shlw hB zd195_21 ?_
  refine zv_orw hB zd195_22 ?_
  refine zv_ald hB zd195_23 rfl rfl rfl ?_
  refine zv_con hB zd195_24 rfl ?_
  refine zv_ild hB zd195_25 rfl rfl ?_
  refine zv_mulw hB zd195_26 ?_
  refine zv_con hB zd195_27 rfl ?_
  refine zv_addw hB zd195_28 ?_
  obtain ⟨r3, hr3, h⟩ := zi_bind h
  refine zv_cv hB (zv_emq (va2 := [.inr 0, .inl (zi_w ((zi_w (4 * x1)) + 2))]) (F := []) (F' := []) (G := [g0]) (G' := [g0]) (ρ := [0, 1]) (φ := []) (ψ := [0]) [] [some 0] zyw_Tape_byteAt zyw_Tape_numberAt zye_Tape_numberAt (by decide +kernel) (zt_Tape_byteAt hr3) trivial ⟨rfl, trivial⟩ rfl rfl rfl rfl rfl rfl rfl) zd195_29 zxt138 rfl (by decide) (by decide) rfl ?_
  refine zv_con hB zd195_32 rfl ?_
  refine zv_shlw hB zd195_34 ?_
  refine zv_orw hB zd195_35 ?_
  refine zv_ald hB zd195_36 rfl rfl rfl ?_
  refine zv_con hB zd195_37 rfl ?_
  refine zv_ild hB zd195_38 rfl rfl ?_
  refine zv_mulw hB zd195_39 ?_
  refine zv_con hB zd195_40 rfl ?_
  refine zv_addw hB zd195_41 ?_
  obtain ⟨r4, hr4, h⟩ := zi_bind h
  refine zv_cv hB (zv_emq (va2 := [.inr 0, .inl (zi_w ((zi_w (4 * x1)) + 3))]) (F := []) (F' := []) (G := [g0]) (G' := [g0]) (ρ := [0, 1]) (φ := []) (ψ := [0]) [] [some 0] zyw_Tape_byteAt zyw_Tape_numberAt zye_Tape_numberAt (by decide +kernel) (zt_Tape_byteAt hr4) trivial ⟨rfl, trivial⟩ rfl rfl rfl rfl rfl rfl rfl) zd195_42 zxt138 rfl (by decide) (by decide) rfl ?_
  refine zv_orw hB zd195_45 ?_
  have hw := Option.some.inj h
  subst hw
  exact hret _ _ _ _ _ zd195_46 (by trivial) ⟨rfl, rfl, rfl⟩
/-! X_check (I)I -/
-- names: 0 StarTales('arg', 0), 1 Tape(0, 0, 6), 2 Sea(0, 0, 3), 3 (0, 220)(1, 3, 0), 4 (0, 6)(2, 2, 2)
-- fields: f0 = 1.size_, f1 = 2.shipsTold_; arrays: g0 = 3, g1 = 4; out: [('ret', None), ('f', 0)]
abbrev zy_X_check : zNL := (5, [(0, 0), (1, 3), (2, 2)], [(1, 3, 1, 0), (2, 2, 1, 1)], [(0, 0, 6, 1), (0, 0, 3, 2), (1, 3, 0, 3), (2, 2, 2, 4)], [(3, 0, 220, 0), (4, 0, 6, 1)])
theorem zyw_X_check : zv_wf zy_X_check = true := by decide +kernel
theorem zye_X_check : zv_ek2 zy_X_check = true := by decide +kernel
def zf_X_check_l0_b (x1 : Int) (f0 : Int) (f1 : Int) (g0 : (Int → Int)) (g1 : (Int → Int)) (rec : Int → Option (((Unit) ⊕ (Int × Int)))) (x2 : Int) : Option (((Unit) ⊕ (Int × Int))) := if x2 < x1 then ((zf_Sea_hasShip x2 f1).bind fun r6 => (if r6 = 0 then ((zf_Tape_numberAt x2 g0).bind fun r8 => (if r8 = 0 then (rec (zi_w (x2 + 1))) else (some (.inr (x2, f0))))) else (cond (zi_ix x2 6) ((zf_Tape_numberAt x2 g0).bind fun r11 => (if r11 = (g1 x2) then (rec (zi_w (x2 + 1))) else (some (.inr (x2, f0))))) none))) else (some (.inl ()))
def zf_X_check_l0 (x1 : Int) (f0 : Int) (f1 : Int) (g0 : (Int → Int)) (g1 : (Int → Int)) : Nat → Int → Option (((Unit) ⊕ (Int × Int)))
  | 0, _ => none
  | n + 1, x2 => zf_X_check_l0_b x1 f0 f1 g0 g1 (zf_X_check_l0 x1 f0 f1 g0 g1 n) x2
def zf_X_check (x1 : Int) (f0 : Int) (f1 : Int) (g0 : (Int → Int)) (g1 : (Int → Int)) : Option (Int × Int) := (zf_X_isWithin x1 0 6).bind fun r1 => (if r1 = 0 then (some ((-2), f0)) else ((zf_Tape_take (zi_w (4 * x1)) f0).bind fun r3 => (if r3.1 = 0 then (some ((-2), r3.2)) else ((zf_X_check_l0 x1 r3.2 f1 g0 g1 zi_fu 0).bind fun q13 => Sum.elim (fun e14 => (some ((-1), r3.2))) (fun w15 => some w15) q13))))
theorem zd194_0 : decode zxm194.2.1 0 = .ok (.iload_n 1, 1) := by decide +kernel
theorem zd194_1 : decode zxm194.2.1 1 = .ok (.iconst 0, 1) := by decide +kernel
theorem zd194_2 : decode zxm194.2.1 2 = .ok (.bipush 6, 2) := by decide +kernel
theorem zd194_4 : decode zxm194.2.1 4 = .ok (.invokestatic 126, 3) := by decide +kernel
theorem zd194_7 : decode zxm194.2.1 7 = .ok (.ifCond .eq 16, 3) := by decide +kernel
theorem zd194_10 : decode zxm194.2.1 10 = .ok (.aload_n 0, 1) := by decide +kernel
theorem zd194_11 : decode zxm194.2.1 11 = .ok (.getfield 39, 3) := by decide +kernel
theorem zd194_14 : decode zxm194.2.1 14 = .ok (.iconst 4, 1) := by decide +kernel
theorem zd194_15 : decode zxm194.2.1 15 = .ok (.iload_n 1, 1) := by decide +kernel
theorem zd194_16 : decode zxm194.2.1 16 = .ok (.imul, 1) := by decide +kernel
theorem zd194_17 : decode zxm194.2.1 17 = .ok (.invokevirtual 197, 3) := by decide +kernel
theorem zd194_20 : decode zxm194.2.1 20 = .ok (.ifCond .ne 6, 3) := by decide +kernel
theorem zd194_23 : decode zxm194.2.1 23 = .ok (.bipush (-2), 2) := by decide +kernel
theorem zd194_25 : decode zxm194.2.1 25 = .ok (.ireturn, 1) := by decide +kernel
theorem zd194_26 : decode zxm194.2.1 26 = .ok (.iconst 0, 1) := by decide +kernel
theorem zd194_27 : decode zxm194.2.1 27 = .ok (.istore_n 2, 1) := by decide +kernel
theorem zd194_28 : decode zxm194.2.1 28 = .ok (.iload_n 2, 1) := by decide +kernel
theorem zd194_29 : decode zxm194.2.1 29 = .ok (.iload_n 1, 1) := by decide +kernel
theorem zd194_30 : decode zxm194.2.1 30 = .ok (.if_icmp .ge 48, 3) := by decide +kernel
theorem zd194_33 : decode zxm194.2.1 33 = .ok (.aload_n 0, 1) := by decide +kernel
theorem zd194_34 : decode zxm194.2.1 34 = .ok (.getfield 25, 3) := by decide +kernel
theorem zd194_37 : decode zxm194.2.1 37 = .ok (.iload_n 2, 1) := by decide +kernel
theorem zd194_38 : decode zxm194.2.1 38 = .ok (.invokevirtual 323, 3) := by decide +kernel
theorem zd194_41 : decode zxm194.2.1 41 = .ok (.ifCond .eq 15, 3) := by decide +kernel
theorem zd194_44 : decode zxm194.2.1 44 = .ok (.aload_n 0, 1) := by decide +kernel
theorem zd194_45 : decode zxm194.2.1 45 = .ok (.getfield 25, 3) := by decide +kernel
theorem zd194_48 : decode zxm194.2.1 48 = .ok (.getfield 187, 3) := by decide +kernel
theorem zd194_51 : decode zxm194.2.1 51 = .ok (.iload_n 2, 1) := by decide +kernel
theorem zd194_52 : decode zxm194.2.1 52 = .ok (.iaload, 1) := by decide +kernel
theorem zd194_53 : decode zxm194.2.1 53 = .ok (.goto 4, 3) := by decide +kernel
theorem zd194_56 : decode zxm194.2.1 56 = .ok (.iconst 0, 1) := by decide +kernel
theorem zd194_57 : decode zxm194.2.1 57 = .ok (.istore_n 3, 1) := by decide +kernel
theorem zd194_58 : decode zxm194.2.1 58 = .ok (.aload_n 0, 1) := by decide +kernel
theorem zd194_59 : decode zxm194.2.1 59 = .ok (.getfield 39, 3) := by decide +kernel
theorem zd194_62 : decode zxm194.2.1 62 = .ok (.iload_n 2, 1) := by decide +kernel
theorem zd194_63 : decode zxm194.2.1 63 = .ok (.invokevirtual 417, 3) := by decide +kernel
theorem zd194_66 : decode zxm194.2.1 66 = .ok (.iload_n 3, 1) := by decide +kernel
theorem zd194_67 : decode zxm194.2.1 67 = .ok (.if_icmp .eq 5, 3) := by decide +kernel
theorem zd194_70 : decode zxm194.2.1 70 = .ok (.iload_n 2, 1) := by decide +kernel
theorem zd194_71 : decode zxm194.2.1 71 = .ok (.ireturn, 1) := by decide +kernel
theorem zd194_72 : decode zxm194.2.1 72 = .ok (.iinc 2 1, 3) := by decide +kernel
theorem zd194_75 : decode zxm194.2.1 75 = .ok (.goto (-47), 3) := by decide +kernel
theorem zd194_78 : decode zxm194.2.1 78 = .ok (.iconst (-1), 1) := by decide +kernel
theorem zd194_79 : decode zxm194.2.1 79 = .ok (.ireturn, 1) := by decide +kernel
theorem zt_X_check {x1 : Int} {f0 : Int} {f1 : Int} {g0 : (Int → Int)} {g1 : (Int → Int)} {o : Int × Int} (h : zf_X_check x1 f0 f1 g0 g1 = some o) : zv_Fn z_TB z_cl z_KX zy_X_check zxm194 (2, 120) [.inr 0, .inl x1] [.inl f0, .inl f1] [g0, g1] (some o.1) [.inl o.2, .inl f1] [g0, g1] := zv_meth (K := (z_KF0, z_KC0, z_KL0, z_KT0, [], [], [], none)) (FT := z_FT) (MT := z_MT) (n := 2) zxp194 (z_ks0 _ (fun _ h => List.mem_cons_of_mem _ h) _ _ _ _ (fun j r h _ => by cases h)) (fun _ _ => zs_KX_p) zyw_X_check (fun va F G h => by obtain ⟨rfl, _⟩ := h; rfl) (fun va F G h => by obtain ⟨rfl, _⟩ := h; rfl) rfl fun good va F G hB hret hvret hP => by
  obtain ⟨rfl, rfl, rfl⟩ := hP
  have l0 : ∀ (n : Nat) (x1 : Int) (x2 : Int) (f0 : Int) (q : ((Unit) ⊕ (Int × Int))), zf_X_check_l0 x1 f0 f1 g0 g1 n x2 = some q → (Sum.elim (fun e : Unit => good 78 [.inr 1000, .inr 1000, .inr 1000, .inr 1000] [] [.inl f0, .inl f1] [g0, g1]) (fun w : Int × Int => w = o) q) → good 28 [.inr 0, .inl x1, .inl x2, .inr 1000] [] [.inl f0, .inl f1] [g0, g1] := by
    intro n
    induction n with
    | zero => intro x1 x2 f0 q h; exact absurd (show none = some q from h) (fun h => by cases h)
    | succ n ih =>
      intro x1 x2 f0 q h hK
      replace h : zf_X_check_l0_b x1 f0 f1 g0 g1 (zf_X_check_l0 x1 f0 f1 g0 g1 n) x2 = some q := h
      unfold zf_X_check_l0_b at h
      refine zv_ild hB zd194_28 rfl rfl ?_
      refine zv_ild hB zd194_29 rfl rfl ?_
      refine zv_cge hB zd194_30 rfl (fun hc5 => ?_) (fun hc5 => ?_)
      · rw [if_neg (Int.not_lt.mpr hc5)] at h
        have hq := Option.some.inj h
        subst hq
        refine zv_wk hB (L' := [.inr 1000, .inr 1000, .inr 1000, .inr 1000]) (F' := [.inl f0, .inl f1]) ⟨fun (h : zv_is (.inr 1000)) => (Nat.lt_irrefl 1000 h).elim, fun (h : zv_is (.inr 1000)) => (Nat.lt_irrefl 1000 h).elim, fun (h : zv_is (.inr 1000)) => (Nat.lt_irrefl 1000 h).elim, fun (h : zv_is (.inr 1000)) => (Nat.lt_irrefl 1000 h).elim, trivial⟩ ⟨fun _ => rfl, fun _ => rfl, trivial⟩ ?_
        exact hK
      · rw [if_pos hc5] at h
        refine zv_ald hB zd194_33 rfl rfl rfl ?_
        refine zv_getr hB zd194_34 rfl ?_
        refine zv_ild hB zd194_37 rfl rfl ?_
        obtain ⟨r6, hr6, h⟩ := zi_bind h
        refine zv_cv hB (zv_emq (va2 := [.inr 2, .inl x2]) (F := [.inl f0, .inl f1]) (F' := [.inl f0, .inl f1]) (G := [g0, g1]) (G' := [g0, g1]) (ρ := [2]) (φ := [1]) (ψ := []) [none, some 0] [none, none] zyw_Sea_hasShip zyw_X_check zye_X_check (by decide +kernel) (zt_Sea_hasShip hr6) ⟨⟨_, rfl, fun _ => rfl⟩, trivial⟩ trivial rfl rfl rfl rfl rfl rfl rfl) zd194_38 zxt26 rfl (by decide) (by decide) rfl ?_
        refine zv_zeq hB zd194_41 rfl (fun hc7 => ?_) (fun hc7 => ?_)
        · rw [if_pos hc7] at h
          refine zv_con hB zd194_56 rfl ?_
          refine zv_ist hB zd194_57 rfl rfl rfl ?_
          refine zv_ald hB zd194_58 rfl rfl rfl ?_
          refine zv_getr hB zd194_59 rfl ?_
          refine zv_ild hB zd194_62 rfl rfl ?_
          obtain ⟨r8, hr8, h⟩ := zi_bind h
          refine zv_cv hB (zv_emq (va2 := [.inr 1, .inl x2]) (F := [.inl f0, .inl f1]) (F' := [.inl f0, .inl f1]) (G := [g0, g1]) (G' := [g0, g1]) (ρ := [1, 3]) (φ := []) (ψ := [0]) [none, none] [some 0, none] zyw_Tape_numberAt zyw_X_check zye_X_check (by decide +kernel) (zt_Tape_numberAt hr8) trivial ⟨rfl, trivial⟩ rfl rfl rfl rfl rfl rfl rfl) zd194_63 zxt195 rfl (by decide) (by decide) rfl ?_
          refine zv_ild hB zd194_66 rfl rfl ?_
          refine zv_ceq hB zd194_67 rfl (fun hc9 => ?_) (fun hc9 => ?_)
          · rw [if_pos hc9] at h
            refine zv_iincw hB zd194_72 rfl rfl ?_
            refine zv_goto hB zd194_75 rfl ?_
            refine zv_wk hB (L' := [.inr 0, .inl x1, .inl (zi_w (x2 + 1)), .inr 1000]) (F' := [.inl f0, .inl f1]) ⟨fun _ => rfl, fun _ => rfl, fun _ => rfl, fun (h : zv_is (.inr 1000)) => (Nat.lt_irrefl 1000 h).elim, trivial⟩ ⟨fun _ => rfl, fun _ => rfl, trivial⟩ ?_
            exact ih _ _ _ q h hK
          · rw [if_neg hc9] at h
            refine zv_ild hB zd194_70 rfl rfl ?_
            have hw : (x2, f0) = o := zi_rk (Option.some.inj h) hK
            subst hw
            exact hret _ _ _ _ _ zd194_71 (by trivial) ⟨rfl, rfl, rfl⟩
        · rw [if_neg hc7] at h
          refine zv_ald hB zd194_44 rfl rfl rfl ?_
          refine zv_getr hB zd194_45 rfl ?_
          refine zv_getr hB zd194_48 rfl ?_
          refine zv_ild hB zd194_51 rfl rfl ?_
          obtain ⟨c10, h⟩ := zi_if h
          refine zv_iald hB zd194_52 rfl rfl (zi_ix_ok c10).1 (zi_ix_ok c10).2 (fun _ _ => ?_)
          refine zv_goto hB zd194_53 rfl ?_
          refine zv_ist hB zd194_57 rfl rfl rfl ?_
          refine zv_ald hB zd194_58 rfl rfl rfl ?_
          refine zv_getr hB zd194_59 rfl ?_
          refine zv_ild hB zd194_62 rfl rfl ?_
          obtain ⟨r11, hr11, h⟩ := zi_bind h
          refine zv_cv hB (zv_emq (va2 := [.inr 1, .inl x2]) (F := [.inl f0, .inl f1]) (F' := [.inl f0, .inl f1]) (G := [g0, g1]) (G' := [g0, g1]) (ρ := [1, 3]) (φ := []) (ψ := [0]) [none, none] [some 0, none] zyw_Tape_numberAt zyw_X_check zye_X_check (by decide +kernel) (zt_Tape_numberAt hr11) trivial ⟨rfl, trivial⟩ rfl rfl rfl rfl rfl rfl rfl) zd194_63 zxt195 rfl (by decide) (by decide) rfl ?_
          refine zv_ild hB zd194_66 rfl rfl ?_
          refine zv_ceq hB zd194_67 rfl (fun hc12 => ?_) (fun hc12 => ?_)
          · rw [if_pos hc12] at h
            refine zv_iincw hB zd194_72 rfl rfl ?_
            refine zv_goto hB zd194_75 rfl ?_
            refine zv_wk hB (L' := [.inr 0, .inl x1, .inl (zi_w (x2 + 1)), .inr 1000]) (F' := [.inl f0, .inl f1]) ⟨fun _ => rfl, fun _ => rfl, fun _ => rfl, fun (h : zv_is (.inr 1000)) => (Nat.lt_irrefl 1000 h).elim, trivial⟩ ⟨fun _ => rfl, fun _ => rfl, trivial⟩ ?_
            exact ih _ _ _ q h hK
          · rw [if_neg hc12] at h
            refine zv_ild hB zd194_70 rfl rfl ?_
            have hw : (x2, f0) = o := zi_rk (Option.some.inj h) hK
            subst hw
            exact hret _ _ _ _ _ zd194_71 (by trivial) ⟨rfl, rfl, rfl⟩
  unfold zf_X_check at h
  refine zv_ild hB zd194_0 rfl rfl ?_
  refine zv_con hB zd194_1 rfl ?_
  refine zv_con hB zd194_2 rfl ?_
  obtain ⟨r1, hr1, h⟩ := zi_bind h
  refine zv_cs hB (zv_emq (va2 := [.inl x1, .inl 0, .inl 6]) (F := [.inl f0, .inl f1]) (F' := [.inl f0, .inl f1]) (G := [g0, g1]) (G' := [g0, g1]) (ρ := []) (φ := []) (ψ := []) [none, none] [none, none] zyw_X_isWithin zyw_X_check zye_X_check (by decide +kernel) (zt_X_isWithin hr1) trivial trivial rfl rfl rfl rfl rfl rfl rfl) zd194_4 zxt15 rfl (by decide) (by decide) rfl ?_
  refine zv_zeq hB zd194_7 rfl (fun hc2 => ?_) (fun hc2 => ?_)
  · rw [if_pos hc2] at h
    refine zv_con hB zd194_23 rfl ?_
    have hw := Option.some.inj h
    subst hw
    exact hret _ _ _ _ _ zd194_25 (by trivial) ⟨rfl, rfl, rfl⟩
  · rw [if_neg hc2] at h
    refine zv_ald hB zd194_10 rfl rfl rfl ?_
    refine zv_getr hB zd194_11 rfl ?_
    refine zv_con hB zd194_14 rfl ?_
    refine zv_ild hB zd194_15 rfl rfl ?_
    refine zv_mulw hB zd194_16 ?_
    obtain ⟨r3, hr3, h⟩ := zi_bind h
    refine zv_cv hB (zv_emq (va2 := [.inr 1, .inl (zi_w (4 * x1))]) (F := [.inl f0, .inl f1]) (F' := [.inl r3.2, .inl f1]) (G := [g0, g1]) (G' := [g0, g1]) (ρ := [1]) (φ := [0]) (ψ := []) [some 0, none] [none, none] zyw_Tape_take zyw_X_check zye_X_check (by decide +kernel) (zt_Tape_take hr3) ⟨⟨_, rfl, fun _ => rfl⟩, trivial⟩ trivial rfl rfl rfl rfl rfl rfl rfl) zd194_17 zxt35 rfl (by decide) (by decide) rfl ?_
    refine zv_zne hB zd194_20 rfl (fun hc4 => ?_) (fun hc4 => ?_)
    · rw [if_neg hc4] at h
      refine zv_con hB zd194_26 rfl ?_
      refine zv_ist hB zd194_27 rfl rfl rfl ?_
      obtain ⟨q13, hq13, h⟩ := zi_bind h
      refine l0 _ _ _ _ q13 hq13 ?_
      rcases q13 with e14 | w15
      · replace h := zi_sl h
        show good 78 [.inr 1000, .inr 1000, .inr 1000, .inr 1000] [] [.inl r3.2, .inl f1] [g0, g1]
        refine zv_con hB zd194_78 rfl ?_
        have hw := Option.some.inj h
        subst hw
        exact hret _ _ _ _ _ zd194_79 (by trivial) ⟨rfl, rfl, rfl⟩
      · exact Option.some.inj h
    · rw [if_pos hc4] at h
      refine zv_con hB zd194_23 rfl ?_
      have hw := Option.some.inj h
      subst hw
      exact hret _ _ _ _ _ zd194_25 (by trivial) ⟨rfl, rfl, rfl⟩
/-! Sea_countLand ()I -/
-- names: 0 Sea('arg', 0), 1 (0, 12)(0, 2, 0)
-- fields: ; arrays: g0 = 1; out: [('ret', None)]
abbrev zy_Sea_countLand : zNL := (2, [(0, 2)], [], [(0, 2, 0, 1)], [(1, 0, 12, 0)])
theorem zyw_Sea_countLand : zv_wf zy_Sea_countLand = true := by decide +kernel
theorem zye_Sea_countLand : zv_ek2 zy_Sea_countLand = true := by decide +kernel
def zf_Sea_countLand_l0_b (g0 : (Int → Int)) (rec : Int → Int → Option (Int)) (x1 : Int) (x2 : Int) : Option (Int) := if x2 < 12 then (cond (zi_ix x2 12) ((zf_Integer_bitCount (g0 x2)).bind fun r3 => (rec (zi_w (x1 + r3)) (zi_w (x2 + 1)))) none) else (some x1)
def zf_Sea_countLand_l0 (g0 : (Int → Int)) : Nat → Int → Int → Option (Int)
  | 0, _, _ => none
  | n + 1, x1, x2 => zf_Sea_countLand_l0_b g0 (zf_Sea_countLand_l0 g0 n) x1 x2
def zf_Sea_countLand (g0 : (Int → Int)) : Option (Int) := (zf_Sea_countLand_l0 g0 zi_fu 0 0).bind fun q4 => (some q4)
theorem zd197_0 : decode zxm197.2.1 0 = .ok (.iconst 0, 1) := by decide +kernel
theorem zd197_1 : decode zxm197.2.1 1 = .ok (.istore_n 1, 1) := by decide +kernel
theorem zd197_2 : decode zxm197.2.1 2 = .ok (.iconst 0, 1) := by decide +kernel
theorem zd197_3 : decode zxm197.2.1 3 = .ok (.istore_n 2, 1) := by decide +kernel
theorem zd197_4 : decode zxm197.2.1 4 = .ok (.iload_n 2, 1) := by decide +kernel
theorem zd197_5 : decode zxm197.2.1 5 = .ok (.bipush 12, 2) := by decide +kernel
theorem zd197_7 : decode zxm197.2.1 7 = .ok (.if_icmp .ge 21, 3) := by decide +kernel
theorem zd197_10 : decode zxm197.2.1 10 = .ok (.iload_n 1, 1) := by decide +kernel
theorem zd197_11 : decode zxm197.2.1 11 = .ok (.aload_n 0, 1) := by decide +kernel
theorem zd197_12 : decode zxm197.2.1 12 = .ok (.getfield 9, 3) := by decide +kernel
theorem zd197_15 : decode zxm197.2.1 15 = .ok (.iload_n 2, 1) := by decide +kernel
theorem zd197_16 : decode zxm197.2.1 16 = .ok (.iaload, 1) := by decide +kernel
theorem zd197_17 : decode zxm197.2.1 17 = .ok (.invokestatic 29, 3) := by decide +kernel
theorem zd197_20 : decode zxm197.2.1 20 = .ok (.iadd, 1) := by decide +kernel
theorem zd197_21 : decode zxm197.2.1 21 = .ok (.istore_n 1, 1) := by decide +kernel
theorem zd197_22 : decode zxm197.2.1 22 = .ok (.iinc 2 1, 3) := by decide +kernel
theorem zd197_25 : decode zxm197.2.1 25 = .ok (.goto (-21), 3) := by decide +kernel
theorem zd197_28 : decode zxm197.2.1 28 = .ok (.iload_n 1, 1) := by decide +kernel
theorem zd197_29 : decode zxm197.2.1 29 = .ok (.ireturn, 1) := by decide +kernel
theorem zt_Sea_countLand {g0 : (Int → Int)} {o : Int} (h : zf_Sea_countLand g0 = some o) : zv_Fn z_TB z_cl z_KX zy_Sea_countLand zxm197 (1, 60) [.inr 0] [] [g0] (some o) [] [g0] := zv_meth (K := (z_KF7, z_KC7, z_KL7, z_KT7, [], [], [], none)) (FT := z_FT) (MT := z_MT) (n := 1) zxp197 (z_ks7 _ (fun _ h => List.mem_cons_of_mem _ h) _ _ _ _ (fun j r h _ => by cases h)) (fun _ _ => zs_KX_p) zyw_Sea_countLand (fun va F G h => by obtain ⟨rfl, _⟩ := h; rfl) (fun va F G h => by obtain ⟨rfl, _⟩ := h; rfl) rfl fun good va F G hB hret hvret hP => by
  obtain ⟨rfl, rfl, rfl⟩ := hP
  have l0 : ∀ (n : Nat) (x1 : Int) (x2 : Int) (q : Int), zf_Sea_countLand_l0 g0 n x1 x2 = some q → (good 28 [.inr 1000, .inl q, .inr 1000] [] [] [g0]) → good 4 [.inr 0, .inl x1, .inl x2] [] [] [g0] := by
    intro n
    induction n with
    | zero => intro x1 x2 q h; exact absurd (show none = some q from h) (fun h => by cases h)
    | succ n ih =>
      intro x1 x2 q h hK
      replace h : zf_Sea_countLand_l0_b g0 (zf_Sea_countLand_l0 g0 n) x1 x2 = some q := h
      unfold zf_Sea_countLand_l0_b at h
      refine zv_ild hB zd197_4 rfl rfl ?_
      refine zv_con hB zd197_5 rfl ?_
      refine zv_cge hB zd197_7 rfl (fun hc1 => ?_) (fun hc1 => ?_)
      · rw [if_neg (Int.not_lt.mpr hc1)] at h
        have hq := Option.some.inj h
        subst hq
        refine zv_wk hB (L' := [.inr 1000, .inl x1, .inr 1000]) (F' := []) ⟨fun (h : zv_is (.inr 1000)) => (Nat.lt_irrefl 1000 h).elim, fun _ => rfl, fun (h : zv_is (.inr 1000)) => (Nat.lt_irrefl 1000 h).elim, trivial⟩ trivial ?_
        exact hK
      · rw [if_pos hc1] at h
        refine zv_ild hB zd197_10 rfl rfl ?_
        refine zv_ald hB zd197_11 rfl rfl rfl ?_
        refine zv_getr hB zd197_12 rfl ?_
        refine zv_ild hB zd197_15 rfl rfl ?_
        obtain ⟨c2, h⟩ := zi_if h
        refine zv_iald hB zd197_16 rfl rfl (zi_ix_ok c2).1 (zi_ix_ok c2).2 (fun _ _ => ?_)
        obtain ⟨r3, hr3, h⟩ := zi_bind h
        refine zv_cs hB (zv_emq (va2 := [.inl (g0 x2)]) (F := []) (F' := []) (G := [g0]) (G' := [g0]) (ρ := []) (φ := []) (ψ := []) [] [none] zyw_Integer_bitCount zyw_Sea_countLand zye_Sea_countLand (by decide +kernel) (zt_Integer_bitCount hr3) trivial trivial rfl rfl rfl rfl rfl rfl rfl) zd197_17 zxt102 rfl (by decide) (by decide) rfl ?_
        refine zv_addw hB zd197_20 ?_
        refine zv_ist hB zd197_21 rfl rfl rfl ?_
        refine zv_iincw hB zd197_22 rfl rfl ?_
        refine zv_goto hB zd197_25 rfl ?_
        exact ih _ _ q h hK
  unfold zf_Sea_countLand at h
  refine zv_con hB zd197_0 rfl ?_
  refine zv_ist hB zd197_1 rfl rfl rfl ?_
  refine zv_con hB zd197_2 rfl ?_
  refine zv_ist hB zd197_3 rfl rfl rfl ?_
  obtain ⟨q4, hq4, h⟩ := zi_bind h
  refine l0 _ _ _ q4 hq4 ?_
  show good 28 [.inr 1000, .inl q4, .inr 1000] [] [] [g0]
  refine zv_ild hB zd197_28 rfl rfl ?_
  have hw := Option.some.inj h
  subst hw
  exact hret _ _ _ _ _ zd197_29 (by trivial) ⟨rfl, rfl, rfl⟩
end
section
/-! Methods as functions, and that they do what these do. -/
/-! X_count (I)I -/
-- names: 0 StarTales('arg', 0), 1 Sky(0, 0, 0), 2 Sea(0, 0, 3), 3 Law(0, 0, 7), 4 Tale(0, 0, 10), 5 Tape(0, 0, 6), 6 (0, 12)(2, 2, 0), 7 (0, 6)(2, 2, 2)
-- fields: f0 = 1.hour_, f1 = 1.night_, f2 = 1.clouds_, f3 = 1.told_, f4 = 2.shipsTold_, f5 = 0.ruling_, f6 = 3.clauses_, f7 = 0.telling_, f8 = 4.lines_, f9 = 5.size_, f10 = 1.chance_, f11 = 1.sightColumns_, f12 = 1.sightRows_; arrays: g0 = 6, g1 = 7; out: [('ret', None)]
abbrev zy_X_count : zNL := (8, [(0, 0), (1, 1), (2, 2), (3, 4), (4, 6), (5, 3)], [(1, 1, 6, 0), (1, 1, 7, 1), (1, 1, 8, 2), (1, 1, 0, 3), (2, 2, 1, 4), (0, 0, 7, 5), (3, 4, 7, 6), (0, 0, 10, 7), (4, 6, 0, 8), (5, 3, 1, 9), (1, 1, 11, 10), (1, 1, 9, 11), (1, 1, 10, 12)], [(0, 0, 0, 1), (0, 0, 3, 2), (0, 0, 6, 5), (2, 2, 0, 6), (2, 2, 2, 7)], [(6, 0, 12, 0), (7, 0, 6, 1)])
theorem zyw_X_count : zv_wf zy_X_count = true := by decide +kernel
theorem zye_X_count : zv_ek2 zy_X_count = true := by decide +kernel
def zf_X_count (x1 : Int) (f0 : Int) (f1 : Int) (f2 : Int) (f3 : Int) (f4 : Int) (f6 : Int) (f8 : Int) (f9 : Int) (f10 : Int) (f11 : Int) (f12 : Int) (g0 : (Int → Int)) (g1 : (Int → Int)) : Option (Int) := if x1 = 0 then (some f0) else (if x1 = 1 then (some f1) else (if x1 = 2 then (some f2) else (if x1 = 3 then ((zf_Integer_bitCount f3).bind fun r5 => (some r5)) else (if x1 = 4 then (some f4) else (if x1 = 5 then (some f6) else (if x1 = 6 then (some f8) else (if x1 = 7 then (some f9) else (if x1 = 8 then (some f10) else (if x1 = 9 then (some (zi_w ((zi_w (100 * f11)) + f12))) else (if x1 = 10 then ((zf_Sea_countLand g0).bind fun r13 => (some r13)) else ((zf_X_isWithin x1 20 25).bind fun r14 => (if r14 = 0 then (some (-1)) else ((zf_Sea_hasShip (zi_w (x1 - 20)) f4).bind fun r16 => (if r16 = 0 then (some (-1)) else (cond (zi_ix (zi_w (x1 - 20)) 6) (some (g1 (zi_w (x1 - 20)))) none)))))))))))))))
theorem zd196_0 : decode zxm196.2.1 0 = .ok (.iload_n 1, 1) := by decide +kernel
theorem zd196_1 : decode zxm196.2.1 1 = .ok (.tableswitch 161 0 10 #[59, 67, 75, 83, 94, 102, 110, 118, 126, 134, 153], 59) := by decide +kernel
theorem zd196_60 : decode zxm196.2.1 60 = .ok (.aload_n 0, 1) := by decide +kernel
theorem zd196_61 : decode zxm196.2.1 61 = .ok (.getfield 10, 3) := by decide +kernel
theorem zd196_64 : decode zxm196.2.1 64 = .ok (.getfield 157, 3) := by decide +kernel
theorem zd196_67 : decode zxm196.2.1 67 = .ok (.ireturn, 1) := by decide +kernel
theorem zd196_68 : decode zxm196.2.1 68 = .ok (.aload_n 0, 1) := by decide +kernel
theorem zd196_69 : decode zxm196.2.1 69 = .ok (.getfield 10, 3) := by decide +kernel
theorem zd196_72 : decode zxm196.2.1 72 = .ok (.getfield 337, 3) := by decide +kernel
theorem zd196_75 : decode zxm196.2.1 75 = .ok (.ireturn, 1) := by decide +kernel
theorem zd196_76 : decode zxm196.2.1 76 = .ok (.aload_n 0, 1) := by decide +kernel
theorem zd196_77 : decode zxm196.2.1 77 = .ok (.getfield 10, 3) := by decide +kernel
theorem zd196_80 : decode zxm196.2.1 80 = .ok (.getfield 161, 3) := by decide +kernel
theorem zd196_83 : decode zxm196.2.1 83 = .ok (.ireturn, 1) := by decide +kernel
theorem zd196_84 : decode zxm196.2.1 84 = .ok (.aload_n 0, 1) := by decide +kernel
theorem zd196_85 : decode zxm196.2.1 85 = .ok (.getfield 10, 3) := by decide +kernel
theorem zd196_88 : decode zxm196.2.1 88 = .ok (.getfield 134, 3) := by decide +kernel
theorem zd196_91 : decode zxm196.2.1 91 = .ok (.invokestatic 235, 3) := by decide +kernel
theorem zd196_94 : decode zxm196.2.1 94 = .ok (.ireturn, 1) := by decide +kernel
theorem zd196_95 : decode zxm196.2.1 95 = .ok (.aload_n 0, 1) := by decide +kernel
theorem zd196_96 : decode zxm196.2.1 96 = .ok (.getfield 25, 3) := by decide +kernel
theorem zd196_99 : decode zxm196.2.1 99 = .ok (.getfield 184, 3) := by decide +kernel
theorem zd196_102 : decode zxm196.2.1 102 = .ok (.ireturn, 1) := by decide +kernel
theorem zd196_103 : decode zxm196.2.1 103 = .ok (.aload_n 0, 1) := by decide +kernel
theorem zd196_104 : decode zxm196.2.1 104 = .ok (.getfield 46, 3) := by decide +kernel
theorem zd196_107 : decode zxm196.2.1 107 = .ok (.getfield 420, 3) := by decide +kernel
theorem zd196_110 : decode zxm196.2.1 110 = .ok (.ireturn, 1) := by decide +kernel
theorem zd196_111 : decode zxm196.2.1 111 = .ok (.aload_n 0, 1) := by decide +kernel
theorem zd196_112 : decode zxm196.2.1 112 = .ok (.getfield 69, 3) := by decide +kernel
theorem zd196_115 : decode zxm196.2.1 115 = .ok (.getfield 253, 3) := by decide +kernel
theorem zd196_118 : decode zxm196.2.1 118 = .ok (.ireturn, 1) := by decide +kernel
theorem zd196_119 : decode zxm196.2.1 119 = .ok (.aload_n 0, 1) := by decide +kernel
theorem zd196_120 : decode zxm196.2.1 120 = .ok (.getfield 39, 3) := by decide +kernel
theorem zd196_123 : decode zxm196.2.1 123 = .ok (.getfield 190, 3) := by decide +kernel
theorem zd196_126 : decode zxm196.2.1 126 = .ok (.ireturn, 1) := by decide +kernel
theorem zd196_127 : decode zxm196.2.1 127 = .ok (.aload_n 0, 1) := by decide +kernel
theorem zd196_128 : decode zxm196.2.1 128 = .ok (.getfield 10, 3) := by decide +kernel
theorem zd196_131 : decode zxm196.2.1 131 = .ok (.getfield 411, 3) := by decide +kernel
theorem zd196_134 : decode zxm196.2.1 134 = .ok (.ireturn, 1) := by decide +kernel
theorem zd196_135 : decode zxm196.2.1 135 = .ok (.bipush 100, 2) := by decide +kernel
theorem zd196_137 : decode zxm196.2.1 137 = .ok (.aload_n 0, 1) := by decide +kernel
theorem zd196_138 : decode zxm196.2.1 138 = .ok (.getfield 10, 3) := by decide +kernel
theorem zd196_141 : decode zxm196.2.1 141 = .ok (.getfield 164, 3) := by decide +kernel
theorem zd196_144 : decode zxm196.2.1 144 = .ok (.imul, 1) := by decide +kernel
theorem zd196_145 : decode zxm196.2.1 145 = .ok (.aload_n 0, 1) := by decide +kernel
theorem zd196_146 : decode zxm196.2.1 146 = .ok (.getfield 10, 3) := by decide +kernel
theorem zd196_149 : decode zxm196.2.1 149 = .ok (.getfield 167, 3) := by decide +kernel
theorem zd196_152 : decode zxm196.2.1 152 = .ok (.iadd, 1) := by decide +kernel
theorem zd196_153 : decode zxm196.2.1 153 = .ok (.ireturn, 1) := by decide +kernel
theorem zd196_154 : decode zxm196.2.1 154 = .ok (.aload_n 0, 1) := by decide +kernel
theorem zd196_155 : decode zxm196.2.1 155 = .ok (.getfield 25, 3) := by decide +kernel
theorem zd196_158 : decode zxm196.2.1 158 = .ok (.invokevirtual 423, 3) := by decide +kernel
theorem zd196_161 : decode zxm196.2.1 161 = .ok (.ireturn, 1) := by decide +kernel
theorem zd196_162 : decode zxm196.2.1 162 = .ok (.iload_n 1, 1) := by decide +kernel
theorem zd196_163 : decode zxm196.2.1 163 = .ok (.bipush 20, 2) := by decide +kernel
theorem zd196_165 : decode zxm196.2.1 165 = .ok (.bipush 25, 2) := by decide +kernel
theorem zd196_167 : decode zxm196.2.1 167 = .ok (.invokestatic 126, 3) := by decide +kernel
theorem zd196_170 : decode zxm196.2.1 170 = .ok (.ifCond .eq 32, 3) := by decide +kernel
theorem zd196_173 : decode zxm196.2.1 173 = .ok (.aload_n 0, 1) := by decide +kernel
theorem zd196_174 : decode zxm196.2.1 174 = .ok (.getfield 25, 3) := by decide +kernel
theorem zd196_177 : decode zxm196.2.1 177 = .ok (.iload_n 1, 1) := by decide +kernel
theorem zd196_178 : decode zxm196.2.1 178 = .ok (.bipush 20, 2) := by decide +kernel
theorem zd196_180 : decode zxm196.2.1 180 = .ok (.isub, 1) := by decide +kernel
theorem zd196_181 : decode zxm196.2.1 181 = .ok (.invokevirtual 323, 3) := by decide +kernel
theorem zd196_184 : decode zxm196.2.1 184 = .ok (.ifCond .eq 18, 3) := by decide +kernel
theorem zd196_187 : decode zxm196.2.1 187 = .ok (.aload_n 0, 1) := by decide +kernel
theorem zd196_188 : decode zxm196.2.1 188 = .ok (.getfield 25, 3) := by decide +kernel
theorem zd196_191 : decode zxm196.2.1 191 = .ok (.getfield 187, 3) := by decide +kernel
theorem zd196_194 : decode zxm196.2.1 194 = .ok (.iload_n 1, 1) := by decide +kernel
theorem zd196_195 : decode zxm196.2.1 195 = .ok (.bipush 20, 2) := by decide +kernel
theorem zd196_197 : decode zxm196.2.1 197 = .ok (.isub, 1) := by decide +kernel
theorem zd196_198 : decode zxm196.2.1 198 = .ok (.iaload, 1) := by decide +kernel
theorem zd196_199 : decode zxm196.2.1 199 = .ok (.goto 4, 3) := by decide +kernel
theorem zd196_202 : decode zxm196.2.1 202 = .ok (.iconst (-1), 1) := by decide +kernel
theorem zd196_203 : decode zxm196.2.1 203 = .ok (.ireturn, 1) := by decide +kernel
theorem zt_X_count {x1 : Int} {f0 : Int} {f1 : Int} {f2 : Int} {f3 : Int} {f4 : Int} {f6 : Int} {f8 : Int} {f9 : Int} {f10 : Int} {f11 : Int} {f12 : Int} {g0 : (Int → Int)} {g1 : (Int → Int)} {o : Int} (h : zf_X_count x1 f0 f1 f2 f3 f4 f6 f8 f9 f10 f11 f12 g0 g1 = some o) : zv_Fn z_TB z_cl z_KX zy_X_count zxm196 (2, 120) [.inr 0, .inl x1] [.inl f0, .inl f1, .inl f2, .inl f3, .inl f4, .inr 3, .inl f6, .inr 4, .inl f8, .inl f9, .inl f10, .inl f11, .inl f12] [g0, g1] (some o) [.inl f0, .inl f1, .inl f2, .inl f3, .inl f4, .inr 3, .inl f6, .inr 4, .inl f8, .inl f9, .inl f10, .inl f11, .inl f12] [g0, g1] := zv_meth (K := (z_KF0, z_KC0, z_KL0, z_KT0, [], [], [], none)) (FT := z_FT) (MT := z_MT) (n := 2) zxp196 (z_ks0 _ (fun _ h => List.mem_cons_of_mem _ h) _ _ _ _ (fun j r h _ => by cases h)) (fun _ _ => zs_KX_p) zyw_X_count (fun va F G h => by obtain ⟨rfl, _⟩ := h; rfl) (fun va F G h => by obtain ⟨rfl, _⟩ := h; rfl) rfl fun good va F G hB hret hvret hP => by
  obtain ⟨rfl, rfl, rfl⟩ := hP
  unfold zf_X_count at h
  refine zv_ild hB zd196_0 rfl rfl ?_
  refine zv_tsw hB zd196_1 rfl ?_
  refine ⟨fun hc1 => ⟨_, rfl, ?_⟩, fun hc1 => ?_⟩
  · replace hc1 : x1 = 0 := hc1
    rw [if_pos hc1] at h
    refine zv_ald hB zd196_60 rfl rfl rfl ?_
    refine zv_getr hB zd196_61 rfl ?_
    refine zv_getf hB zd196_64 rfl rfl (fun _ _ => ?_)
    have hw := Option.some.inj h
    subst hw
    exact hret _ _ _ _ _ zd196_67 (by trivial) ⟨rfl, rfl, rfl⟩
  replace hc1 : x1 ≠ 0 := hc1
  rw [if_neg hc1] at h
  refine ⟨fun hc2 => ⟨_, rfl, ?_⟩, fun hc2 => ?_⟩
  · replace hc2 : x1 = 1 := hc2
    rw [if_pos hc2] at h
    refine zv_ald hB zd196_68 rfl rfl rfl ?_
    refine zv_getr hB zd196_69 rfl ?_
    refine zv_getf hB zd196_72 rfl rfl (fun _ _ => ?_)
    have hw := Option.some.inj h
    subst hw
    exact hret _ _ _ _ _ zd196_75 (by trivial) ⟨rfl, rfl, rfl⟩
  replace hc2 : x1 ≠ 1 := hc2
  rw [if_neg hc2] at h
  refine ⟨fun hc3 => ⟨_, rfl, ?_⟩, fun hc3 => ?_⟩
  · replace hc3 : x1 = 2 := hc3
    rw [if_pos hc3] at h
    refine zv_ald hB zd196_76 rfl rfl rfl ?_
    refine zv_getr hB zd196_77 rfl ?_
    refine zv_getf hB zd196_80 rfl rfl (fun _ _ => ?_)
    have hw := Option.some.inj h
    subst hw
    exact hret _ _ _ _ _ zd196_83 (by trivial) ⟨rfl, rfl, rfl⟩
  replace hc3 : x1 ≠ 2 := hc3
  rw [if_neg hc3] at h
  refine ⟨fun hc4 => ⟨_, rfl, ?_⟩, fun hc4 => ?_⟩
  · replace hc4 : x1 = 3 := hc4
    rw [if_pos hc4] at h
    refine zv_ald hB zd196_84 rfl rfl rfl ?_
    refine zv_getr hB zd196_85 rfl ?_
    refine zv_getf hB zd196_88 rfl rfl (fun _ _ => ?_)
    obtain ⟨r5, hr5, h⟩ := zi_bind h
    refine zv_cs hB (zv_emq (va2 := [.inl f3]) (F := [.inl f0, .inl f1, .inl f2, .inl f3, .inl f4, .inr 3, .inl f6, .inr 4, .inl f8, .inl f9, .inl f10, .inl f11, .inl f12]) (F' := [.inl f0, .inl f1, .inl f2, .inl f3, .inl f4, .inr 3, .inl f6, .inr 4, .inl f8, .inl f9, .inl f10, .inl f11, .inl f12]) (G := [g0, g1]) (G' := [g0, g1]) (ρ := []) (φ := []) (ψ := []) [none, none, none, none, none, none, none, none, none, none, none, none, none] [none, none] zyw_Integer_bitCount zyw_X_count zye_X_count (by decide +kernel) (zt_Integer_bitCount hr5) trivial trivial rfl rfl rfl rfl rfl rfl rfl) zd196_91 zxt102 rfl (by decide) (by decide) rfl ?_
    have hw := Option.some.inj h
    subst hw
    exact hret _ _ _ _ _ zd196_94 (by trivial) ⟨rfl, rfl, rfl⟩
  replace hc4 : x1 ≠ 3 := hc4
  rw [if_neg hc4] at h
  refine ⟨fun hc6 => ⟨_, rfl, ?_⟩, fun hc6 => ?_⟩
  · replace hc6 : x1 = 4 := hc6
    rw [if_pos hc6] at h
    refine zv_ald hB zd196_95 rfl rfl rfl ?_
    refine zv_getr hB zd196_96 rfl ?_
    refine zv_getf hB zd196_99 rfl rfl (fun _ _ => ?_)
    have hw := Option.some.inj h
    subst hw
    exact hret _ _ _ _ _ zd196_102 (by trivial) ⟨rfl, rfl, rfl⟩
  replace hc6 : x1 ≠ 4 := hc6
  rw [if_neg hc6] at h
  refine ⟨fun hc7 => ⟨_, rfl, ?_⟩, fun hc7 => ?_⟩
  · replace hc7 : x1 = 5 := hc7
    rw [if_pos hc7] at h
    refine zv_ald hB zd196_103 rfl rfl rfl ?_
    refine zv_getq hB zd196_104 rfl rfl rfl ?_
    refine zv_getf hB zd196_107 rfl rfl (fun _ _ => ?_)
    have hw := Option.some.inj h
    subst hw
    exact hret _ _ _ _ _ zd196_110 (by trivial) ⟨rfl, rfl, rfl⟩
  replace hc7 : x1 ≠ 5 := hc7
  rw [if_neg hc7] at h
  refine ⟨fun hc8 => ⟨_, rfl, ?_⟩, fun hc8 => ?_⟩
  · replace hc8 : x1 = 6 := hc8
    rw [if_pos hc8] at h
    refine zv_ald hB zd196_111 rfl rfl rfl ?_
    refine zv_getq hB zd196_112 rfl rfl rfl ?_
    refine zv_getf hB zd196_115 rfl rfl (fun _ _ => ?_)
    have hw := Option.some.inj h
    subst hw
    exact hret _ _ _ _ _ zd196_118 (by trivial) ⟨rfl, rfl, rfl⟩
  replace hc8 : x1 ≠ 6 := hc8
  rw [if_neg hc8] at h
  refine ⟨fun hc9 => ⟨_, rfl, ?_⟩, fun hc9 => ?_⟩
  · replace hc9 : x1 = 7 := hc9
    rw [if_pos hc9] at h
    refine zv_ald hB zd196_119 rfl rfl rfl ?_
    refine zv_getr hB zd196_120 rfl ?_
    refine zv_getf hB zd196_123 rfl rfl (fun _ _ => ?_)
    have hw := Option.some.inj h
    subst hw
    exact hret _ _ _ _ _ zd196_126 (by trivial) ⟨rfl, rfl, rfl⟩
  replace hc9 : x1 ≠ 7 := hc9
  rw [if_neg hc9] at h
  refine ⟨fun hc10 => ⟨_, rfl, ?_⟩, fun hc10 => ?_⟩
  · replace hc10 : x1 = 8 := hc10
    rw [if_pos hc10] at h
    refine zv_ald hB zd196_127 rfl rfl rfl ?_
    refine zv_getr hB zd196_128 rfl ?_
    refine zv_getf hB zd196_131 rfl rfl (fun _ _ => ?_)
    have hw := Option.some.inj h
    subst hw
    exact hret _ _ _ _ _ zd196_134 (by trivial) ⟨rfl, rfl, rfl⟩
  replace hc10 : x1 ≠ 8 := hc10
  rw [if_neg hc10] at h
  refine ⟨fun hc11 => ⟨_, rfl, ?_⟩, fun hc11 => ?_⟩
  · replace hc11 : x1 = 9 := hc11
    rw [if_pos hc11] at h
    refine zv_con hB zd196_135 rfl ?_
    refine zv_ald hB zd196_137 rfl rfl rfl ?_
    refine zv_getr hB zd196_138 rfl ?_
    refine zv_getf hB zd196_141 rfl rfl (fun _ _ => ?_)
    refine zv_mulw hB zd196_144 ?_
    refine zv_ald hB zd196_145 rfl rfl rfl ?_
    refine zv_getr hB zd196_146 rfl ?_
    refine zv_getf hB zd196_149 rfl rfl (fun _ _ => ?_)
    refine zv_addw hB zd196_152 ?_
    have hw := Option.some.inj h
    subst hw
    exact hret _ _ _ _ _ zd196_153 (by trivial) ⟨rfl, rfl, rfl⟩
  replace hc11 : x1 ≠ 9 := hc11
  rw [if_neg hc11] at h
  refine ⟨fun hc12 => ⟨_, rfl, ?_⟩, fun hc12 => ?_⟩
  · replace hc12 : x1 = 10 := hc12
    rw [if_pos hc12] at h
    refine zv_ald hB zd196_154 rfl rfl rfl ?_
    refine zv_getr hB zd196_155 rfl ?_
    obtain ⟨r13, hr13, h⟩ := zi_bind h
    refine zv_cv hB (zv_emq (va2 := [.inr 2]) (F := [.inl f0, .inl f1, .inl f2, .inl f3, .inl f4, .inr 3, .inl f6, .inr 4, .inl f8, .inl f9, .inl f10, .inl f11, .inl f12]) (F' := [.inl f0, .inl f1, .inl f2, .inl f3, .inl f4, .inr 3, .inl f6, .inr 4, .inl f8, .inl f9, .inl f10, .inl f11, .inl f12]) (G := [g0, g1]) (G' := [g0, g1]) (ρ := [2, 6]) (φ := []) (ψ := [0]) [none, none, none, none, none, none, none, none, none, none, none, none, none] [some 0, none] zyw_Sea_countLand zyw_X_count zye_X_count (by decide +kernel) (zt_Sea_countLand hr13) trivial ⟨rfl, trivial⟩ rfl rfl rfl rfl rfl rfl rfl) zd196_158 zxt197 rfl (by decide) (by decide) rfl ?_
    have hw := Option.some.inj h
    subst hw
    exact hret _ _ _ _ _ zd196_161 (by trivial) ⟨rfl, rfl, rfl⟩
  replace hc12 : x1 ≠ 10 := hc12
  rw [if_neg hc12] at h
  refine ⟨_, rfl, ?_⟩
  refine zv_ild hB zd196_162 rfl rfl ?_
  refine zv_con hB zd196_163 rfl ?_
  refine zv_con hB zd196_165 rfl ?_
  obtain ⟨r14, hr14, h⟩ := zi_bind h
  refine zv_cs hB (zv_emq (va2 := [.inl x1, .inl 20, .inl 25]) (F := [.inl f0, .inl f1, .inl f2, .inl f3, .inl f4, .inr 3, .inl f6, .inr 4, .inl f8, .inl f9, .inl f10, .inl f11, .inl f12]) (F' := [.inl f0, .inl f1, .inl f2, .inl f3, .inl f4, .inr 3, .inl f6, .inr 4, .inl f8, .inl f9, .inl f10, .inl f11, .inl f12]) (G := [g0, g1]) (G' := [g0, g1]) (ρ := []) (φ := []) (ψ := []) [none, none, none, none, none, none, none, none, none, none, none, none, none] [none, none] zyw_X_isWithin zyw_X_count zye_X_count (by decide +kernel) (zt_X_isWithin hr14) trivial trivial rfl rfl rfl rfl rfl rfl rfl) zd196_167 zxt15 rfl (by decide) (by decide) rfl ?_
  refine zv_zeq hB zd196_170 rfl (fun hc15 => ?_) (fun hc15 => ?_)
  · rw [if_pos hc15] at h
    refine zv_con hB zd196_202 rfl ?_
    have hw := Option.some.inj h
    subst hw
    exact hret _ _ _ _ _ zd196_203 (by trivial) ⟨rfl, rfl, rfl⟩
  · rw [if_neg hc15] at h
    refine zv_ald hB zd196_173 rfl rfl rfl ?_
    refine zv_getr hB zd196_174 rfl ?_
    refine zv_ild hB zd196_177 rfl rfl ?_
    refine zv_con hB zd196_178 rfl ?_
    refine zv_subw hB zd196_180 ?_
    obtain ⟨r16, hr16, h⟩ := zi_bind h
    refine zv_cv hB (zv_emq (va2 := [.inr 2, .inl (zi_w (x1 - 20))]) (F := [.inl f0, .inl f1, .inl f2, .inl f3, .inl f4, .inr 3, .inl f6, .inr 4, .inl f8, .inl f9, .inl f10, .inl f11, .inl f12]) (F' := [.inl f0, .inl f1, .inl f2, .inl f3, .inl f4, .inr 3, .inl f6, .inr 4, .inl f8, .inl f9, .inl f10, .inl f11, .inl f12]) (G := [g0, g1]) (G' := [g0, g1]) (ρ := [2]) (φ := [4]) (ψ := []) [none, none, none, none, some 0, none, none, none, none, none, none, none, none] [none, none] zyw_Sea_hasShip zyw_X_count zye_X_count (by decide +kernel) (zt_Sea_hasShip hr16) ⟨⟨_, rfl, fun _ => rfl⟩, trivial⟩ trivial rfl rfl rfl rfl rfl rfl rfl) zd196_181 zxt26 rfl (by decide) (by decide) rfl ?_
    refine zv_zeq hB zd196_184 rfl (fun hc17 => ?_) (fun hc17 => ?_)
    · rw [if_pos hc17] at h
      refine zv_con hB zd196_202 rfl ?_
      have hw := Option.some.inj h
      subst hw
      exact hret _ _ _ _ _ zd196_203 (by trivial) ⟨rfl, rfl, rfl⟩
    · rw [if_neg hc17] at h
      refine zv_ald hB zd196_187 rfl rfl rfl ?_
      refine zv_getr hB zd196_188 rfl ?_
      refine zv_getr hB zd196_191 rfl ?_
      refine zv_ild hB zd196_194 rfl rfl ?_
      refine zv_con hB zd196_195 rfl ?_
      refine zv_subw hB zd196_197 ?_
      obtain ⟨c18, h⟩ := zi_if h
      refine zv_iald hB zd196_198 rfl rfl (zi_ix_ok c18).1 (zi_ix_ok c18).2 (fun _ _ => ?_)
      refine zv_goto hB zd196_199 rfl ?_
      have hw := Option.some.inj h
      subst hw
      exact hret _ _ _ _ _ zd196_203 (by trivial) ⟨rfl, rfl, rfl⟩
/-! M_in (III)Z -/
-- names: 
-- fields: ; arrays: ; out: [('ret', None)]
abbrev zy_M_in : zNL := (0, [], [], [], [])
theorem zyw_M_in : zv_wf zy_M_in = true := by decide +kernel
theorem zye_M_in : zv_ek2 zy_M_in = true := by decide +kernel
def zf_M_in (x0 : Int) (x1 : Int) (x2 : Int) : Option (Int) := if x0 < x1 then (some 0) else (if x2 < x0 then (some 0) else (some 1))
theorem zd200_0 : decode zxm200.2.1 0 = .ok (.iload_n 0, 1) := by decide +kernel
theorem zd200_1 : decode zxm200.2.1 1 = .ok (.iload_n 1, 1) := by decide +kernel
theorem zd200_2 : decode zxm200.2.1 2 = .ok (.if_icmp .lt 12, 3) := by decide +kernel
theorem zd200_5 : decode zxm200.2.1 5 = .ok (.iload_n 0, 1) := by decide +kernel
theorem zd200_6 : decode zxm200.2.1 6 = .ok (.iload_n 2, 1) := by decide +kernel
theorem zd200_7 : decode zxm200.2.1 7 = .ok (.if_icmp .gt 7, 3) := by decide +kernel
theorem zd200_10 : decode zxm200.2.1 10 = .ok (.iconst 1, 1) := by decide +kernel
theorem zd200_11 : decode zxm200.2.1 11 = .ok (.goto 4, 3) := by decide +kernel
theorem zd200_14 : decode zxm200.2.1 14 = .ok (.iconst 0, 1) := by decide +kernel
theorem zd200_15 : decode zxm200.2.1 15 = .ok (.ireturn, 1) := by decide +kernel
theorem zt_M_in {x0 : Int} {x1 : Int} {x2 : Int} {o : Int} (h : zf_M_in x0 x1 x2 = some o) : zv_Fn z_TB z_cl z_KX zy_M_in zxm200 (0, 0) [.inl x0, .inl x1, .inl x2] [] [] (some o) [] [] := zv_meth (K := (z_KF13, z_KC13, z_KL13, z_KT13, [], [], [], none)) (FT := z_FT) (MT := z_MT) (n := 3) zxp200 (z_ks13 _ (fun _ h => List.mem_cons_of_mem _ h) _ _ _ _ (fun j r h _ => by cases h)) (fun _ _ => zs_KX_p) zyw_M_in (fun va F G h => by obtain ⟨rfl, _⟩ := h; rfl) (fun va F G h => by obtain ⟨rfl, _⟩ := h; rfl) rfl fun good va F G hB hret hvret hP => by
  obtain ⟨rfl, rfl, rfl⟩ := hP
  unfold zf_M_in at h
  refine zv_ild hB zd200_0 rfl rfl ?_
  refine zv_ild hB zd200_1 rfl rfl ?_
  refine zv_clt hB zd200_2 rfl (fun hc1 => ?_) (fun hc1 => ?_)
  · rw [if_pos hc1] at h
    refine zv_con hB zd200_14 rfl ?_
    have hw := Option.some.inj h
    subst hw
    exact hret _ _ _ _ _ zd200_15 (by constructor <;> decide) ⟨rfl, rfl, rfl⟩
  · rw [if_neg (Int.not_lt.mpr hc1)] at h
    refine zv_ild hB zd200_5 rfl rfl ?_
    refine zv_ild hB zd200_6 rfl rfl ?_
    refine zv_cgt hB zd200_7 rfl (fun hc2 => ?_) (fun hc2 => ?_)
    · rw [if_pos hc2] at h
      refine zv_con hB zd200_14 rfl ?_
      have hw := Option.some.inj h
      subst hw
      exact hret _ _ _ _ _ zd200_15 (by constructor <;> decide) ⟨rfl, rfl, rfl⟩
    · rw [if_neg (Int.not_lt.mpr hc2)] at h
      refine zv_con hB zd200_10 rfl ?_
      refine zv_goto hB zd200_11 rfl ?_
      have hw := Option.some.inj h
      subst hw
      exact hret _ _ _ _ _ zd200_15 (by constructor <;> decide) ⟨rfl, rfl, rfl⟩
/-! M_isPlace (II)Z -/
-- names: 
-- fields: ; arrays: ; out: [('ret', None)]
abbrev zy_M_isPlace : zNL := (0, [], [], [], [])
theorem zyw_M_isPlace : zv_wf zy_M_isPlace = true := by decide +kernel
theorem zye_M_isPlace : zv_ek2 zy_M_isPlace = true := by decide +kernel
def zf_M_isPlace (x0 : Int) (x1 : Int) : Option (Int) := if x0 < 0 then (some 0) else (if x0 < 24 then (if x1 < 0 then (some 0) else (if x1 < 12 then (some 1) else (some 0))) else (some 0))
theorem zd201_0 : decode zxm201.2.1 0 = .ok (.iload_n 0, 1) := by decide +kernel
theorem zd201_1 : decode zxm201.2.1 1 = .ok (.ifCond .lt 23, 3) := by decide +kernel
theorem zd201_4 : decode zxm201.2.1 4 = .ok (.iload_n 0, 1) := by decide +kernel
theorem zd201_5 : decode zxm201.2.1 5 = .ok (.bipush 24, 2) := by decide +kernel
theorem zd201_7 : decode zxm201.2.1 7 = .ok (.if_icmp .ge 17, 3) := by decide +kernel
theorem zd201_10 : decode zxm201.2.1 10 = .ok (.iload_n 1, 1) := by decide +kernel
theorem zd201_11 : decode zxm201.2.1 11 = .ok (.ifCond .lt 13, 3) := by decide +kernel
theorem zd201_14 : decode zxm201.2.1 14 = .ok (.iload_n 1, 1) := by decide +kernel
theorem zd201_15 : decode zxm201.2.1 15 = .ok (.bipush 12, 2) := by decide +kernel
theorem zd201_17 : decode zxm201.2.1 17 = .ok (.if_icmp .ge 7, 3) := by decide +kernel
theorem zd201_20 : decode zxm201.2.1 20 = .ok (.iconst 1, 1) := by decide +kernel
theorem zd201_21 : decode zxm201.2.1 21 = .ok (.goto 4, 3) := by decide +kernel
theorem zd201_24 : decode zxm201.2.1 24 = .ok (.iconst 0, 1) := by decide +kernel
theorem zd201_25 : decode zxm201.2.1 25 = .ok (.ireturn, 1) := by decide +kernel
theorem zt_M_isPlace {x0 : Int} {x1 : Int} {o : Int} (h : zf_M_isPlace x0 x1 = some o) : zv_Fn z_TB z_cl z_KX zy_M_isPlace zxm201 (0, 0) [.inl x0, .inl x1] [] [] (some o) [] [] := zv_meth (K := (z_KF13, z_KC13, z_KL13, z_KT13, [], [], [], none)) (FT := z_FT) (MT := z_MT) (n := 2) zxp201 (z_ks13 _ (fun _ h => List.mem_cons_of_mem _ h) _ _ _ _ (fun j r h _ => by cases h)) (fun _ _ => zs_KX_p) zyw_M_isPlace (fun va F G h => by obtain ⟨rfl, _⟩ := h; rfl) (fun va F G h => by obtain ⟨rfl, _⟩ := h; rfl) rfl fun good va F G hB hret hvret hP => by
  obtain ⟨rfl, rfl, rfl⟩ := hP
  unfold zf_M_isPlace at h
  refine zv_ild hB zd201_0 rfl rfl ?_
  refine zv_zlt hB zd201_1 rfl (fun hc1 => ?_) (fun hc1 => ?_)
  · rw [if_pos hc1] at h
    refine zv_con hB zd201_24 rfl ?_
    have hw := Option.some.inj h
    subst hw
    exact hret _ _ _ _ _ zd201_25 (by constructor <;> decide) ⟨rfl, rfl, rfl⟩
  · rw [if_neg (Int.not_lt.mpr hc1)] at h
    refine zv_ild hB zd201_4 rfl rfl ?_
    refine zv_con hB zd201_5 rfl ?_
    refine zv_cge hB zd201_7 rfl (fun hc2 => ?_) (fun hc2 => ?_)
    · rw [if_neg (Int.not_lt.mpr hc2)] at h
      refine zv_con hB zd201_24 rfl ?_
      have hw := Option.some.inj h
      subst hw
      exact hret _ _ _ _ _ zd201_25 (by constructor <;> decide) ⟨rfl, rfl, rfl⟩
    · rw [if_pos hc2] at h
      refine zv_ild hB zd201_10 rfl rfl ?_
      refine zv_zlt hB zd201_11 rfl (fun hc3 => ?_) (fun hc3 => ?_)
      · rw [if_pos hc3] at h
        refine zv_con hB zd201_24 rfl ?_
        have hw := Option.some.inj h
        subst hw
        exact hret _ _ _ _ _ zd201_25 (by constructor <;> decide) ⟨rfl, rfl, rfl⟩
      · rw [if_neg (Int.not_lt.mpr hc3)] at h
        refine zv_ild hB zd201_14 rfl rfl ?_
        refine zv_con hB zd201_15 rfl ?_
        refine zv_cge hB zd201_17 rfl (fun hc4 => ?_) (fun hc4 => ?_)
        · rw [if_neg (Int.not_lt.mpr hc4)] at h
          refine zv_con hB zd201_24 rfl ?_
          have hw := Option.some.inj h
          subst hw
          exact hret _ _ _ _ _ zd201_25 (by constructor <;> decide) ⟨rfl, rfl, rfl⟩
        · rw [if_pos hc4] at h
          refine zv_con hB zd201_20 rfl ?_
          refine zv_goto hB zd201_21 rfl ?_
          have hw := Option.some.inj h
          subst hw
          exact hret _ _ _ _ _ zd201_25 (by constructor <;> decide) ⟨rfl, rfl, rfl⟩
/-! M_star (IIII)Z -/
-- names: 0 StarTalesModel('arg', 0), 1 (0, 422)(0, 12, 0)
-- fields: ; arrays: g0 = 1; out: [('ret', None), ('g', 0)]
abbrev zy_M_star : zNL := (2, [(0, 12)], [], [(0, 12, 0, 1)], [(1, 0, 422, 0)])
theorem zyw_M_star : zv_wf zy_M_star = true := by decide +kernel
theorem zye_M_star : zv_ek2 zy_M_star = true := by decide +kernel
def zf_M_star (x1 : Int) (x2 : Int) (x3 : Int) (x4 : Int) (g0 : (Int → Int)) : Option (Int × (Int → Int)) := (zf_M_in x1 0 23).bind fun r1 => (if r1 = 0 then (some (0, g0)) else ((zf_M_isPlace x2 x3).bind fun r3 => (if r3 = 0 then (some (0, g0)) else ((zf_M_in x4 1 9).bind fun r5 => (if r5 = 0 then (some (0, g0)) else (cond (zi_ix (zi_w (0 + x1)) 422) (cond (zi_ix (zi_w (24 + x1)) 422) (cond (zi_ix (zi_w (48 + x1)) 422) (cond (zi_ix (zi_w (72 + x1)) 422) (cond (zi_ix (zi_w (96 + x1)) 422) (some (1, (zv_up (zv_up (zv_up (zv_up (zv_up (zv_up g0 126 (zi_or (g0 126) (zi_shl 1 x1))) (zi_w (0 + x1)) x2) (zi_w (24 + x1)) x3) (zi_w (48 + x1)) x4) (zi_w (72 + x1)) 0) (zi_w (96 + x1)) 0))) none) none) none) none) none))))))
theorem zd199_0 : decode zxm199.2.1 0 = .ok (.iload_n 1, 1) := by decide +kernel
theorem zd199_1 : decode zxm199.2.1 1 = .ok (.iconst 0, 1) := by decide +kernel
theorem zd199_2 : decode zxm199.2.1 2 = .ok (.bipush 23, 2) := by decide +kernel
theorem zd199_4 : decode zxm199.2.1 4 = .ok (.invokestatic 150, 3) := by decide +kernel
theorem zd199_7 : decode zxm199.2.1 7 = .ok (.ifCond .eq 22, 3) := by decide +kernel
theorem zd199_10 : decode zxm199.2.1 10 = .ok (.iload_n 2, 1) := by decide +kernel
theorem zd199_11 : decode zxm199.2.1 11 = .ok (.iload_n 3, 1) := by decide +kernel
theorem zd199_12 : decode zxm199.2.1 12 = .ok (.invokestatic 154, 3) := by decide +kernel
theorem zd199_15 : decode zxm199.2.1 15 = .ok (.ifCond .eq 14, 3) := by decide +kernel
theorem zd199_18 : decode zxm199.2.1 18 = .ok (.iload 4, 2) := by decide +kernel
theorem zd199_20 : decode zxm199.2.1 20 = .ok (.iconst 1, 1) := by decide +kernel
theorem zd199_21 : decode zxm199.2.1 21 = .ok (.bipush 9, 2) := by decide +kernel
theorem zd199_23 : decode zxm199.2.1 23 = .ok (.invokestatic 150, 3) := by decide +kernel
theorem zd199_26 : decode zxm199.2.1 26 = .ok (.ifCond .ne 5, 3) := by decide +kernel
theorem zd199_29 : decode zxm199.2.1 29 = .ok (.iconst 0, 1) := by decide +kernel
theorem zd199_30 : decode zxm199.2.1 30 = .ok (.ireturn, 1) := by decide +kernel
theorem zd199_31 : decode zxm199.2.1 31 = .ok (.aload_n 0, 1) := by decide +kernel
theorem zd199_32 : decode zxm199.2.1 32 = .ok (.getfield 7, 3) := by decide +kernel
theorem zd199_35 : decode zxm199.2.1 35 = .ok (.bipush 126, 2) := by decide +kernel
theorem zd199_37 : decode zxm199.2.1 37 = .ok (.aload_n 0, 1) := by decide +kernel
theorem zd199_38 : decode zxm199.2.1 38 = .ok (.getfield 7, 3) := by decide +kernel
theorem zd199_41 : decode zxm199.2.1 41 = .ok (.bipush 126, 2) := by decide +kernel
theorem zd199_43 : decode zxm199.2.1 43 = .ok (.iaload, 1) := by decide +kernel
theorem zd199_44 : decode zxm199.2.1 44 = .ok (.iconst 1, 1) := by decide +kernel
theorem zd199_45 : decode zxm199.2.1 45 = .ok (.iload_n 1, 1) := by decide +kernel
theorem zd199_46 : decode zxm199.2.1 46 = .ok (.ishl, 1) := by decide +kernel
theorem zd199_47 : decode zxm199.2.1 47 = .ok (.ior, 1) := by decide +kernel
theorem zd199_48 : decode zxm199.2.1 48 = .ok (.iastore, 1) := by decide +kernel
theorem zd199_49 : decode zxm199.2.1 49 = .ok (.aload_n 0, 1) := by decide +kernel
theorem zd199_50 : decode zxm199.2.1 50 = .ok (.getfield 7, 3) := by decide +kernel
theorem zd199_53 : decode zxm199.2.1 53 = .ok (.iconst 0, 1) := by decide +kernel
theorem zd199_54 : decode zxm199.2.1 54 = .ok (.iload_n 1, 1) := by decide +kernel
theorem zd199_55 : decode zxm199.2.1 55 = .ok (.iadd, 1) := by decide +kernel
theorem zd199_56 : decode zxm199.2.1 56 = .ok (.iload_n 2, 1) := by decide +kernel
theorem zd199_57 : decode zxm199.2.1 57 = .ok (.iastore, 1) := by decide +kernel
theorem zd199_58 : decode zxm199.2.1 58 = .ok (.aload_n 0, 1) := by decide +kernel
theorem zd199_59 : decode zxm199.2.1 59 = .ok (.getfield 7, 3) := by decide +kernel
theorem zd199_62 : decode zxm199.2.1 62 = .ok (.bipush 24, 2) := by decide +kernel
theorem zd199_64 : decode zxm199.2.1 64 = .ok (.iload_n 1, 1) := by decide +kernel
theorem zd199_65 : decode zxm199.2.1 65 = .ok (.iadd, 1) := by decide +kernel
theorem zd199_66 : decode zxm199.2.1 66 = .ok (.iload_n 3, 1) := by decide +kernel
theorem zd199_67 : decode zxm199.2.1 67 = .ok (.iastore, 1) := by decide +kernel
theorem zd199_68 : decode zxm199.2.1 68 = .ok (.aload_n 0, 1) := by decide +kernel
theorem zd199_69 : decode zxm199.2.1 69 = .ok (.getfield 7, 3) := by decide +kernel
theorem zd199_72 : decode zxm199.2.1 72 = .ok (.bipush 48, 2) := by decide +kernel
theorem zd199_74 : decode zxm199.2.1 74 = .ok (.iload_n 1, 1) := by decide +kernel
theorem zd199_75 : decode zxm199.2.1 75 = .ok (.iadd, 1) := by decide +kernel
theorem zd199_76 : decode zxm199.2.1 76 = .ok (.iload 4, 2) := by decide +kernel
theorem zd199_78 : decode zxm199.2.1 78 = .ok (.iastore, 1) := by decide +kernel
theorem zd199_79 : decode zxm199.2.1 79 = .ok (.aload_n 0, 1) := by decide +kernel
theorem zd199_80 : decode zxm199.2.1 80 = .ok (.getfield 7, 3) := by decide +kernel
theorem zd199_83 : decode zxm199.2.1 83 = .ok (.bipush 72, 2) := by decide +kernel
theorem zd199_85 : decode zxm199.2.1 85 = .ok (.iload_n 1, 1) := by decide +kernel
theorem zd199_86 : decode zxm199.2.1 86 = .ok (.iadd, 1) := by decide +kernel
theorem zd199_87 : decode zxm199.2.1 87 = .ok (.iconst 0, 1) := by decide +kernel
theorem zd199_88 : decode zxm199.2.1 88 = .ok (.iastore, 1) := by decide +kernel
theorem zd199_89 : decode zxm199.2.1 89 = .ok (.aload_n 0, 1) := by decide +kernel
theorem zd199_90 : decode zxm199.2.1 90 = .ok (.getfield 7, 3) := by decide +kernel
theorem zd199_93 : decode zxm199.2.1 93 = .ok (.bipush 96, 2) := by decide +kernel
theorem zd199_95 : decode zxm199.2.1 95 = .ok (.iload_n 1, 1) := by decide +kernel
theorem zd199_96 : decode zxm199.2.1 96 = .ok (.iadd, 1) := by decide +kernel
theorem zd199_97 : decode zxm199.2.1 97 = .ok (.iconst 0, 1) := by decide +kernel
theorem zd199_98 : decode zxm199.2.1 98 = .ok (.iastore, 1) := by decide +kernel
theorem zd199_99 : decode zxm199.2.1 99 = .ok (.iconst 1, 1) := by decide +kernel
theorem zd199_100 : decode zxm199.2.1 100 = .ok (.ireturn, 1) := by decide +kernel
theorem zt_M_star {x1 : Int} {x2 : Int} {x3 : Int} {x4 : Int} {g0 : (Int → Int)} {o : Int × (Int → Int)} (h : zf_M_star x1 x2 x3 x4 g0 = some o) : zv_Fn z_TB z_cl z_KX zy_M_star zxm199 (1, 60) [.inr 0, .inl x1, .inl x2, .inl x3, .inl x4] [] [g0] (some o.1) [] [o.2] := zv_meth (K := (z_KF13, z_KC13, z_KL13, z_KT13, [], [], [], none)) (FT := z_FT) (MT := z_MT) (n := 5) zxp199 (z_ks13 _ (fun _ h => List.mem_cons_of_mem _ h) _ _ _ _ (fun j r h _ => by cases h)) (fun _ _ => zs_KX_p) zyw_M_star (fun va F G h => by obtain ⟨rfl, _⟩ := h; rfl) (fun va F G h => by obtain ⟨rfl, _⟩ := h; rfl) rfl fun good va F G hB hret hvret hP => by
  obtain ⟨rfl, rfl, rfl⟩ := hP
  unfold zf_M_star at h
  refine zv_ild hB zd199_0 rfl rfl ?_
  refine zv_con hB zd199_1 rfl ?_
  refine zv_con hB zd199_2 rfl ?_
  obtain ⟨r1, hr1, h⟩ := zi_bind h
  refine zv_cs hB (zv_emq (va2 := [.inl x1, .inl 0, .inl 23]) (F := []) (F' := []) (G := [g0]) (G' := [g0]) (ρ := []) (φ := []) (ψ := []) [] [none] zyw_M_in zyw_M_star zye_M_star (by decide +kernel) (zt_M_in hr1) trivial trivial rfl rfl rfl rfl rfl rfl rfl) zd199_4 zxt200 rfl (by decide) (by decide) rfl ?_
  refine zv_zeq hB zd199_7 rfl (fun hc2 => ?_) (fun hc2 => ?_)
  · rw [if_pos hc2] at h
    refine zv_con hB zd199_29 rfl ?_
    have hw := Option.some.inj h
    subst hw
    exact hret _ _ _ _ _ zd199_30 (by constructor <;> decide) ⟨rfl, rfl, rfl⟩
  · rw [if_neg hc2] at h
    refine zv_ild hB zd199_10 rfl rfl ?_
    refine zv_ild hB zd199_11 rfl rfl ?_
    obtain ⟨r3, hr3, h⟩ := zi_bind h
    refine zv_cs hB (zv_emq (va2 := [.inl x2, .inl x3]) (F := []) (F' := []) (G := [g0]) (G' := [g0]) (ρ := []) (φ := []) (ψ := []) [] [none] zyw_M_isPlace zyw_M_star zye_M_star (by decide +kernel) (zt_M_isPlace hr3) trivial trivial rfl rfl rfl rfl rfl rfl rfl) zd199_12 zxt201 rfl (by decide) (by decide) rfl ?_
    refine zv_zeq hB zd199_15 rfl (fun hc4 => ?_) (fun hc4 => ?_)
    · rw [if_pos hc4] at h
      refine zv_con hB zd199_29 rfl ?_
      have hw := Option.some.inj h
      subst hw
      exact hret _ _ _ _ _ zd199_30 (by constructor <;> decide) ⟨rfl, rfl, rfl⟩
    · rw [if_neg hc4] at h
      refine zv_ild hB zd199_18 rfl rfl ?_
      refine zv_con hB zd199_20 rfl ?_
      refine zv_con hB zd199_21 rfl ?_
      obtain ⟨r5, hr5, h⟩ := zi_bind h
      refine zv_cs hB (zv_emq (va2 := [.inl x4, .inl 1, .inl 9]) (F := []) (F' := []) (G := [g0]) (G' := [g0]) (ρ := []) (φ := []) (ψ := []) [] [none] zyw_M_in zyw_M_star zye_M_star (by decide +kernel) (zt_M_in hr5) trivial trivial rfl rfl rfl rfl rfl rfl rfl) zd199_23 zxt200 rfl (by decide) (by decide) rfl ?_
      refine zv_zne hB zd199_26 rfl (fun hc6 => ?_) (fun hc6 => ?_)
      · rw [if_neg hc6] at h
        refine zv_ald hB zd199_31 rfl rfl rfl ?_
        refine zv_getr hB zd199_32 rfl ?_
        refine zv_con hB zd199_35 rfl ?_
        refine zv_ald hB zd199_37 rfl rfl rfl ?_
        refine zv_getr hB zd199_38 rfl ?_
        refine zv_con hB zd199_41 rfl ?_
        refine zv_iald hB zd199_43 rfl rfl (by decide) (by decide) (fun _ _ => ?_)
        refine zv_con hB zd199_44 rfl ?_
        refine zv_ild hB zd199_45 rfl rfl ?_
        refine zv_shlw hB zd199_46 ?_
        refine zv_orw hB zd199_47 ?_
        refine zv_iast hB zd199_48 rfl rfl (by decide) (by decide) ?_
        refine zv_ald hB zd199_49 rfl rfl rfl ?_
        refine zv_getr hB zd199_50 rfl ?_
        refine zv_con hB zd199_53 rfl ?_
        refine zv_ild hB zd199_54 rfl rfl ?_
        refine zv_addw hB zd199_55 ?_
        refine zv_ild hB zd199_56 rfl rfl ?_
        obtain ⟨c7, h⟩ := zi_if h
        refine zv_iast hB zd199_57 rfl rfl (zi_ix_ok c7).1 (zi_ix_ok c7).2 ?_
        refine zv_ald hB zd199_58 rfl rfl rfl ?_
        refine zv_getr hB zd199_59 rfl ?_
        refine zv_con hB zd199_62 rfl ?_
        refine zv_ild hB zd199_64 rfl rfl ?_
        refine zv_addw hB zd199_65 ?_
        refine zv_ild hB zd199_66 rfl rfl ?_
        obtain ⟨c8, h⟩ := zi_if h
        refine zv_iast hB zd199_67 rfl rfl (zi_ix_ok c8).1 (zi_ix_ok c8).2 ?_
        refine zv_ald hB zd199_68 rfl rfl rfl ?_
        refine zv_getr hB zd199_69 rfl ?_
        refine zv_con hB zd199_72 rfl ?_
        refine zv_ild hB zd199_74 rfl rfl ?_
        refine zv_addw hB zd199_75 ?_
        refine zv_ild hB zd199_76 rfl rfl ?_
        obtain ⟨c9, h⟩ := zi_if h
        refine zv_iast hB zd199_78 rfl rfl (zi_ix_ok c9).1 (zi_ix_ok c9).2 ?_
        refine zv_ald hB zd199_79 rfl rfl rfl ?_
        refine zv_getr hB zd199_80 rfl ?_
        refine zv_con hB zd199_83 rfl ?_
        refine zv_ild hB zd199_85 rfl rfl ?_
        refine zv_addw hB zd199_86 ?_
        refine zv_con hB zd199_87 rfl ?_
        obtain ⟨c10, h⟩ := zi_if h
        refine zv_iast hB zd199_88 rfl rfl (zi_ix_ok c10).1 (zi_ix_ok c10).2 ?_
        refine zv_ald hB zd199_89 rfl rfl rfl ?_
        refine zv_getr hB zd199_90 rfl ?_
        refine zv_con hB zd199_93 rfl ?_
        refine zv_ild hB zd199_95 rfl rfl ?_
        refine zv_addw hB zd199_96 ?_
        refine zv_con hB zd199_97 rfl ?_
        obtain ⟨c11, h⟩ := zi_if h
        refine zv_iast hB zd199_98 rfl rfl (zi_ix_ok c11).1 (zi_ix_ok c11).2 ?_
        refine zv_con hB zd199_99 rfl ?_
        have hw := Option.some.inj h
        subst hw
        exact hret _ _ _ _ _ zd199_100 (by constructor <;> decide) ⟨rfl, rfl, rfl⟩
      · rw [if_pos hc6] at h
        refine zv_con hB zd199_29 rfl ?_
        have hw := Option.some.inj h
        subst hw
        exact hret _ _ _ _ _ zd199_30 (by constructor <;> decide) ⟨rfl, rfl, rfl⟩
/-! M_has (II)Z -/
-- names: 
-- fields: ; arrays: ; out: [('ret', None)]
abbrev zy_M_has : zNL := (0, [], [], [], [])
theorem zyw_M_has : zv_wf zy_M_has = true := by decide +kernel
theorem zye_M_has : zv_ek2 zy_M_has = true := by decide +kernel
def zf_M_has (x0 : Int) (x1 : Int) : Option (Int) := if (zi_and (zi_shr x0 x1) 1) = 1 then (some 1) else (some 0)
theorem zd204_0 : decode zxm204.2.1 0 = .ok (.iload_n 0, 1) := by decide +kernel
theorem zd204_1 : decode zxm204.2.1 1 = .ok (.iload_n 1, 1) := by decide +kernel
theorem zd204_2 : decode zxm204.2.1 2 = .ok (.ishr, 1) := by decide +kernel
theorem zd204_3 : decode zxm204.2.1 3 = .ok (.iconst 1, 1) := by decide +kernel
theorem zd204_4 : decode zxm204.2.1 4 = .ok (.iand, 1) := by decide +kernel
theorem zd204_5 : decode zxm204.2.1 5 = .ok (.iconst 1, 1) := by decide +kernel
theorem zd204_6 : decode zxm204.2.1 6 = .ok (.if_icmp .ne 7, 3) := by decide +kernel
theorem zd204_9 : decode zxm204.2.1 9 = .ok (.iconst 1, 1) := by decide +kernel
theorem zd204_10 : decode zxm204.2.1 10 = .ok (.goto 4, 3) := by decide +kernel
theorem zd204_13 : decode zxm204.2.1 13 = .ok (.iconst 0, 1) := by decide +kernel
theorem zd204_14 : decode zxm204.2.1 14 = .ok (.ireturn, 1) := by decide +kernel
theorem zt_M_has {x0 : Int} {x1 : Int} {o : Int} (h : zf_M_has x0 x1 = some o) : zv_Fn z_TB z_cl z_KX zy_M_has zxm204 (0, 0) [.inl x0, .inl x1] [] [] (some o) [] [] := zv_meth (K := (z_KF13, z_KC13, z_KL13, z_KT13, [], [], [], none)) (FT := z_FT) (MT := z_MT) (n := 2) zxp204 (z_ks13 _ (fun _ h => List.mem_cons_of_mem _ h) _ _ _ _ (fun j r h _ => by cases h)) (fun _ _ => zs_KX_p) zyw_M_has (fun va F G h => by obtain ⟨rfl, _⟩ := h; rfl) (fun va F G h => by obtain ⟨rfl, _⟩ := h; rfl) rfl fun good va F G hB hret hvret hP => by
  obtain ⟨rfl, rfl, rfl⟩ := hP
  unfold zf_M_has at h
  refine zv_ild hB zd204_0 rfl rfl ?_
  refine zv_ild hB zd204_1 rfl rfl ?_
  refine zv_shrw hB zd204_2 ?_
  refine zv_con hB zd204_3 rfl ?_
  refine zv_andw hB zd204_4 ?_
  refine zv_con hB zd204_5 rfl ?_
  refine zv_cne hB zd204_6 rfl (fun hc1 => ?_) (fun hc1 => ?_)
  · rw [if_neg hc1] at h
    refine zv_con hB zd204_13 rfl ?_
    have hw := Option.some.inj h
    subst hw
    exact hret _ _ _ _ _ zd204_14 (by constructor <;> decide) ⟨rfl, rfl, rfl⟩
  · rw [if_pos hc1] at h
    refine zv_con hB zd204_9 rfl ?_
    refine zv_goto hB zd204_10 rfl ?_
    have hw := Option.some.inj h
    subst hw
    exact hret _ _ _ _ _ zd204_14 (by constructor <;> decide) ⟨rfl, rfl, rfl⟩
/-! M_isTold (I)Z -/
-- names: 0 StarTalesModel('arg', 0), 1 (0, 422)(0, 12, 0)
-- fields: ; arrays: g0 = 1; out: [('ret', None)]
abbrev zy_M_isTold : zNL := (2, [(0, 12)], [], [(0, 12, 0, 1)], [(1, 0, 422, 0)])
theorem zyw_M_isTold : zv_wf zy_M_isTold = true := by decide +kernel
theorem zye_M_isTold : zv_ek2 zy_M_isTold = true := by decide +kernel
def zf_M_isTold (x1 : Int) (g0 : (Int → Int)) : Option (Int) := if x1 < 0 then (some 0) else (if x1 < 24 then ((zf_M_has (g0 126) x1).bind fun r3 => (if r3 = 0 then (some 0) else (some 1))) else (some 0))
theorem zd203_0 : decode zxm203.2.1 0 = .ok (.iload_n 1, 1) := by decide +kernel
theorem zd203_1 : decode zxm203.2.1 1 = .ok (.ifCond .lt 27, 3) := by decide +kernel
theorem zd203_4 : decode zxm203.2.1 4 = .ok (.iload_n 1, 1) := by decide +kernel
theorem zd203_5 : decode zxm203.2.1 5 = .ok (.bipush 24, 2) := by decide +kernel
theorem zd203_7 : decode zxm203.2.1 7 = .ok (.if_icmp .ge 21, 3) := by decide +kernel
theorem zd203_10 : decode zxm203.2.1 10 = .ok (.aload_n 0, 1) := by decide +kernel
theorem zd203_11 : decode zxm203.2.1 11 = .ok (.getfield 7, 3) := by decide +kernel
theorem zd203_14 : decode zxm203.2.1 14 = .ok (.bipush 126, 2) := by decide +kernel
theorem zd203_16 : decode zxm203.2.1 16 = .ok (.iaload, 1) := by decide +kernel
theorem zd203_17 : decode zxm203.2.1 17 = .ok (.iload_n 1, 1) := by decide +kernel
theorem zd203_18 : decode zxm203.2.1 18 = .ok (.invokestatic 138, 3) := by decide +kernel
theorem zd203_21 : decode zxm203.2.1 21 = .ok (.ifCond .eq 7, 3) := by decide +kernel
theorem zd203_24 : decode zxm203.2.1 24 = .ok (.iconst 1, 1) := by decide +kernel
theorem zd203_25 : decode zxm203.2.1 25 = .ok (.goto 4, 3) := by decide +kernel
theorem zd203_28 : decode zxm203.2.1 28 = .ok (.iconst 0, 1) := by decide +kernel
theorem zd203_29 : decode zxm203.2.1 29 = .ok (.ireturn, 1) := by decide +kernel
theorem zt_M_isTold {x1 : Int} {g0 : (Int → Int)} {o : Int} (h : zf_M_isTold x1 g0 = some o) : zv_Fn z_TB z_cl z_KX zy_M_isTold zxm203 (1, 60) [.inr 0, .inl x1] [] [g0] (some o) [] [g0] := zv_meth (K := (z_KF13, z_KC13, z_KL13, z_KT13, [], [], [], none)) (FT := z_FT) (MT := z_MT) (n := 2) zxp203 (z_ks13 _ (fun _ h => List.mem_cons_of_mem _ h) _ _ _ _ (fun j r h _ => by cases h)) (fun _ _ => zs_KX_p) zyw_M_isTold (fun va F G h => by obtain ⟨rfl, _⟩ := h; rfl) (fun va F G h => by obtain ⟨rfl, _⟩ := h; rfl) rfl fun good va F G hB hret hvret hP => by
  obtain ⟨rfl, rfl, rfl⟩ := hP
  unfold zf_M_isTold at h
  refine zv_ild hB zd203_0 rfl rfl ?_
  refine zv_zlt hB zd203_1 rfl (fun hc1 => ?_) (fun hc1 => ?_)
  · rw [if_pos hc1] at h
    refine zv_con hB zd203_28 rfl ?_
    have hw := Option.some.inj h
    subst hw
    exact hret _ _ _ _ _ zd203_29 (by constructor <;> decide) ⟨rfl, rfl, rfl⟩
  · rw [if_neg (Int.not_lt.mpr hc1)] at h
    refine zv_ild hB zd203_4 rfl rfl ?_
    refine zv_con hB zd203_5 rfl ?_
    refine zv_cge hB zd203_7 rfl (fun hc2 => ?_) (fun hc2 => ?_)
    · rw [if_neg (Int.not_lt.mpr hc2)] at h
      refine zv_con hB zd203_28 rfl ?_
      have hw := Option.some.inj h
      subst hw
      exact hret _ _ _ _ _ zd203_29 (by constructor <;> decide) ⟨rfl, rfl, rfl⟩
    · rw [if_pos hc2] at h
      refine zv_ald hB zd203_10 rfl rfl rfl ?_
      refine zv_getr hB zd203_11 rfl ?_
      refine zv_con hB zd203_14 rfl ?_
      refine zv_iald hB zd203_16 rfl rfl (by decide) (by decide) (fun _ _ => ?_)
      refine zv_ild hB zd203_17 rfl rfl ?_
      obtain ⟨r3, hr3, h⟩ := zi_bind h
      refine zv_cs hB (zv_emq (va2 := [.inl (g0 126), .inl x1]) (F := []) (F' := []) (G := [g0]) (G' := [g0]) (ρ := []) (φ := []) (ψ := []) [] [none] zyw_M_has zyw_M_isTold zye_M_isTold (by decide +kernel) (zt_M_has hr3) trivial trivial rfl rfl rfl rfl rfl rfl rfl) zd203_18 zxt204 rfl (by decide) (by decide) rfl ?_
      refine zv_zeq hB zd203_21 rfl (fun hc4 => ?_) (fun hc4 => ?_)
      · rw [if_pos hc4] at h
        refine zv_con hB zd203_28 rfl ?_
        have hw := Option.some.inj h
        subst hw
        exact hret _ _ _ _ _ zd203_29 (by constructor <;> decide) ⟨rfl, rfl, rfl⟩
      · rw [if_neg hc4] at h
        refine zv_con hB zd203_24 rfl ?_
        refine zv_goto hB zd203_25 rfl ?_
        have hw := Option.some.inj h
        subst hw
        exact hret _ _ _ _ _ zd203_29 (by constructor <;> decide) ⟨rfl, rfl, rfl⟩
/-! M_walk (III)Z -/
-- names: 0 StarTalesModel('arg', 0), 1 (0, 422)(0, 12, 0)
-- fields: ; arrays: g0 = 1; out: [('ret', None), ('g', 0)]
abbrev zy_M_walk : zNL := (2, [(0, 12)], [], [(0, 12, 0, 1)], [(1, 0, 422, 0)])
theorem zyw_M_walk : zv_wf zy_M_walk = true := by decide +kernel
theorem zye_M_walk : zv_ek2 zy_M_walk = true := by decide +kernel
def zf_M_walk (x1 : Int) (x2 : Int) (x3 : Int) (g0 : (Int → Int)) : Option (Int × (Int → Int)) := (zf_M_isTold x1 g0).bind fun r1 => (if r1 = 0 then (some (0, g0)) else ((zf_M_in x2 (-3) 3).bind fun r3 => (if r3 = 0 then (some (0, g0)) else ((zf_M_in x3 (-3) 3).bind fun r5 => (if r5 = 0 then (some (0, g0)) else (cond (zi_ix (zi_w (72 + x1)) 422) (cond (zi_ix (zi_w (96 + x1)) 422) (some (1, (zv_up (zv_up g0 (zi_w (72 + x1)) x2) (zi_w (96 + x1)) x3))) none) none))))))
theorem zd202_0 : decode zxm202.2.1 0 = .ok (.aload_n 0, 1) := by decide +kernel
theorem zd202_1 : decode zxm202.2.1 1 = .ok (.iload_n 1, 1) := by decide +kernel
theorem zd202_2 : decode zxm202.2.1 2 = .ok (.invokevirtual 157, 3) := by decide +kernel
theorem zd202_5 : decode zxm202.2.1 5 = .ok (.ifCond .eq 23, 3) := by decide +kernel
theorem zd202_8 : decode zxm202.2.1 8 = .ok (.iload_n 2, 1) := by decide +kernel
theorem zd202_9 : decode zxm202.2.1 9 = .ok (.bipush (-3), 2) := by decide +kernel
theorem zd202_11 : decode zxm202.2.1 11 = .ok (.iconst 3, 1) := by decide +kernel
theorem zd202_12 : decode zxm202.2.1 12 = .ok (.invokestatic 150, 3) := by decide +kernel
theorem zd202_15 : decode zxm202.2.1 15 = .ok (.ifCond .eq 13, 3) := by decide +kernel
theorem zd202_18 : decode zxm202.2.1 18 = .ok (.iload_n 3, 1) := by decide +kernel
theorem zd202_19 : decode zxm202.2.1 19 = .ok (.bipush (-3), 2) := by decide +kernel
theorem zd202_21 : decode zxm202.2.1 21 = .ok (.iconst 3, 1) := by decide +kernel
theorem zd202_22 : decode zxm202.2.1 22 = .ok (.invokestatic 150, 3) := by decide +kernel
theorem zd202_25 : decode zxm202.2.1 25 = .ok (.ifCond .ne 5, 3) := by decide +kernel
theorem zd202_28 : decode zxm202.2.1 28 = .ok (.iconst 0, 1) := by decide +kernel
theorem zd202_29 : decode zxm202.2.1 29 = .ok (.ireturn, 1) := by decide +kernel
theorem zd202_30 : decode zxm202.2.1 30 = .ok (.aload_n 0, 1) := by decide +kernel
theorem zd202_31 : decode zxm202.2.1 31 = .ok (.getfield 7, 3) := by decide +kernel
theorem zd202_34 : decode zxm202.2.1 34 = .ok (.bipush 72, 2) := by decide +kernel
theorem zd202_36 : decode zxm202.2.1 36 = .ok (.iload_n 1, 1) := by decide +kernel
theorem zd202_37 : decode zxm202.2.1 37 = .ok (.iadd, 1) := by decide +kernel
theorem zd202_38 : decode zxm202.2.1 38 = .ok (.iload_n 2, 1) := by decide +kernel
theorem zd202_39 : decode zxm202.2.1 39 = .ok (.iastore, 1) := by decide +kernel
theorem zd202_40 : decode zxm202.2.1 40 = .ok (.aload_n 0, 1) := by decide +kernel
theorem zd202_41 : decode zxm202.2.1 41 = .ok (.getfield 7, 3) := by decide +kernel
theorem zd202_44 : decode zxm202.2.1 44 = .ok (.bipush 96, 2) := by decide +kernel
theorem zd202_46 : decode zxm202.2.1 46 = .ok (.iload_n 1, 1) := by decide +kernel
theorem zd202_47 : decode zxm202.2.1 47 = .ok (.iadd, 1) := by decide +kernel
theorem zd202_48 : decode zxm202.2.1 48 = .ok (.iload_n 3, 1) := by decide +kernel
theorem zd202_49 : decode zxm202.2.1 49 = .ok (.iastore, 1) := by decide +kernel
theorem zd202_50 : decode zxm202.2.1 50 = .ok (.iconst 1, 1) := by decide +kernel
theorem zd202_51 : decode zxm202.2.1 51 = .ok (.ireturn, 1) := by decide +kernel
theorem zt_M_walk {x1 : Int} {x2 : Int} {x3 : Int} {g0 : (Int → Int)} {o : Int × (Int → Int)} (h : zf_M_walk x1 x2 x3 g0 = some o) : zv_Fn z_TB z_cl z_KX zy_M_walk zxm202 (2, 120) [.inr 0, .inl x1, .inl x2, .inl x3] [] [g0] (some o.1) [] [o.2] := zv_meth (K := (z_KF13, z_KC13, z_KL13, z_KT13, [], [], [], none)) (FT := z_FT) (MT := z_MT) (n := 4) zxp202 (z_ks13 _ (fun _ h => List.mem_cons_of_mem _ h) _ _ _ _ (fun j r h _ => by cases h)) (fun _ _ => zs_KX_p) zyw_M_walk (fun va F G h => by obtain ⟨rfl, _⟩ := h; rfl) (fun va F G h => by obtain ⟨rfl, _⟩ := h; rfl) rfl fun good va F G hB hret hvret hP => by
  obtain ⟨rfl, rfl, rfl⟩ := hP
  unfold zf_M_walk at h
  refine zv_ald hB zd202_0 rfl rfl rfl ?_
  refine zv_ild hB zd202_1 rfl rfl ?_
  obtain ⟨r1, hr1, h⟩ := zi_bind h
  refine zv_cv hB (zv_emq (va2 := [.inr 0, .inl x1]) (F := []) (F' := []) (G := [g0]) (G' := [g0]) (ρ := [0, 1]) (φ := []) (ψ := [0]) [] [some 0] zyw_M_isTold zyw_M_walk zye_M_walk (by decide +kernel) (zt_M_isTold hr1) trivial ⟨rfl, trivial⟩ rfl rfl rfl rfl rfl rfl rfl) zd202_2 zxt203 rfl (by decide) (by decide) rfl ?_
  refine zv_zeq hB zd202_5 rfl (fun hc2 => ?_) (fun hc2 => ?_)
  · rw [if_pos hc2] at h
    refine zv_con hB zd202_28 rfl ?_
    have hw := Option.some.inj h
    subst hw
    exact hret _ _ _ _ _ zd202_29 (by constructor <;> decide) ⟨rfl, rfl, rfl⟩
  · rw [if_neg hc2] at h
    refine zv_ild hB zd202_8 rfl rfl ?_
    refine zv_con hB zd202_9 rfl ?_
    refine zv_con hB zd202_11 rfl ?_
    obtain ⟨r3, hr3, h⟩ := zi_bind h
    refine zv_cs hB (zv_emq (va2 := [.inl x2, .inl (-3), .inl 3]) (F := []) (F' := []) (G := [g0]) (G' := [g0]) (ρ := []) (φ := []) (ψ := []) [] [none] zyw_M_in zyw_M_walk zye_M_walk (by decide +kernel) (zt_M_in hr3) trivial trivial rfl rfl rfl rfl rfl rfl rfl) zd202_12 zxt200 rfl (by decide) (by decide) rfl ?_
    refine zv_zeq hB zd202_15 rfl (fun hc4 => ?_) (fun hc4 => ?_)
    · rw [if_pos hc4] at h
      refine zv_con hB zd202_28 rfl ?_
      have hw := Option.some.inj h
      subst hw
      exact hret _ _ _ _ _ zd202_29 (by constructor <;> decide) ⟨rfl, rfl, rfl⟩
    · rw [if_neg hc4] at h
      refine zv_ild hB zd202_18 rfl rfl ?_
      refine zv_con hB zd202_19 rfl ?_
      refine zv_con hB zd202_21 rfl ?_
      obtain ⟨r5, hr5, h⟩ := zi_bind h
      refine zv_cs hB (zv_emq (va2 := [.inl x3, .inl (-3), .inl 3]) (F := []) (F' := []) (G := [g0]) (G' := [g0]) (ρ := []) (φ := []) (ψ := []) [] [none] zyw_M_in zyw_M_walk zye_M_walk (by decide +kernel) (zt_M_in hr5) trivial trivial rfl rfl rfl rfl rfl rfl rfl) zd202_22 zxt200 rfl (by decide) (by decide) rfl ?_
      refine zv_zne hB zd202_25 rfl (fun hc6 => ?_) (fun hc6 => ?_)
      · rw [if_neg hc6] at h
        refine zv_ald hB zd202_30 rfl rfl rfl ?_
        refine zv_getr hB zd202_31 rfl ?_
        refine zv_con hB zd202_34 rfl ?_
        refine zv_ild hB zd202_36 rfl rfl ?_
        refine zv_addw hB zd202_37 ?_
        refine zv_ild hB zd202_38 rfl rfl ?_
        obtain ⟨c7, h⟩ := zi_if h
        refine zv_iast hB zd202_39 rfl rfl (zi_ix_ok c7).1 (zi_ix_ok c7).2 ?_
        refine zv_ald hB zd202_40 rfl rfl rfl ?_
        refine zv_getr hB zd202_41 rfl ?_
        refine zv_con hB zd202_44 rfl ?_
        refine zv_ild hB zd202_46 rfl rfl ?_
        refine zv_addw hB zd202_47 ?_
        refine zv_ild hB zd202_48 rfl rfl ?_
        obtain ⟨c8, h⟩ := zi_if h
        refine zv_iast hB zd202_49 rfl rfl (zi_ix_ok c8).1 (zi_ix_ok c8).2 ?_
        refine zv_con hB zd202_50 rfl ?_
        have hw := Option.some.inj h
        subst hw
        exact hret _ _ _ _ _ zd202_51 (by constructor <;> decide) ⟨rfl, rfl, rfl⟩
      · rw [if_pos hc6] at h
        refine zv_con hB zd202_28 rfl ?_
        have hw := Option.some.inj h
        subst hw
        exact hret _ _ _ _ _ zd202_29 (by constructor <;> decide) ⟨rfl, rfl, rfl⟩
/-! M_gone (I)Z -/
-- names: 0 StarTalesModel('arg', 0), 1 (0, 422)(0, 12, 0)
-- fields: ; arrays: g0 = 1; out: [('ret', None), ('g', 0)]
abbrev zy_M_gone : zNL := (2, [(0, 12)], [], [(0, 12, 0, 1)], [(1, 0, 422, 0)])
theorem zyw_M_gone : zv_wf zy_M_gone = true := by decide +kernel
theorem zye_M_gone : zv_ek2 zy_M_gone = true := by decide +kernel
def zf_M_gone (x1 : Int) (g0 : (Int → Int)) : Option (Int × (Int → Int)) := (zf_M_isTold x1 g0).bind fun r1 => (if r1 = 0 then (some (0, g0)) else (some (1, (zv_up g0 126 (zi_and (g0 126) (zi_xor (zi_shl 1 x1) (-1)))))))
theorem zd205_0 : decode zxm205.2.1 0 = .ok (.aload_n 0, 1) := by decide +kernel
theorem zd205_1 : decode zxm205.2.1 1 = .ok (.iload_n 1, 1) := by decide +kernel
theorem zd205_2 : decode zxm205.2.1 2 = .ok (.invokevirtual 157, 3) := by decide +kernel
theorem zd205_5 : decode zxm205.2.1 5 = .ok (.ifCond .ne 5, 3) := by decide +kernel
theorem zd205_8 : decode zxm205.2.1 8 = .ok (.iconst 0, 1) := by decide +kernel
theorem zd205_9 : decode zxm205.2.1 9 = .ok (.ireturn, 1) := by decide +kernel
theorem zd205_10 : decode zxm205.2.1 10 = .ok (.aload_n 0, 1) := by decide +kernel
theorem zd205_11 : decode zxm205.2.1 11 = .ok (.getfield 7, 3) := by decide +kernel
theorem zd205_14 : decode zxm205.2.1 14 = .ok (.bipush 126, 2) := by decide +kernel
theorem zd205_16 : decode zxm205.2.1 16 = .ok (.aload_n 0, 1) := by decide +kernel
theorem zd205_17 : decode zxm205.2.1 17 = .ok (.getfield 7, 3) := by decide +kernel
theorem zd205_20 : decode zxm205.2.1 20 = .ok (.bipush 126, 2) := by decide +kernel
theorem zd205_22 : decode zxm205.2.1 22 = .ok (.iaload, 1) := by decide +kernel
theorem zd205_23 : decode zxm205.2.1 23 = .ok (.iconst 1, 1) := by decide +kernel
theorem zd205_24 : decode zxm205.2.1 24 = .ok (.iload_n 1, 1) := by decide +kernel
theorem zd205_25 : decode zxm205.2.1 25 = .ok (.ishl, 1) := by decide +kernel
theorem zd205_26 : decode zxm205.2.1 26 = .ok (.iconst (-1), 1) := by decide +kernel
theorem zd205_27 : decode zxm205.2.1 27 = .ok (.ixor, 1) := by decide +kernel
theorem zd205_28 : decode zxm205.2.1 28 = .ok (.iand, 1) := by decide +kernel
theorem zd205_29 : decode zxm205.2.1 29 = .ok (.iastore, 1) := by decide +kernel
theorem zd205_30 : decode zxm205.2.1 30 = .ok (.iconst 1, 1) := by decide +kernel
theorem zd205_31 : decode zxm205.2.1 31 = .ok (.ireturn, 1) := by decide +kernel
theorem zt_M_gone {x1 : Int} {g0 : (Int → Int)} {o : Int × (Int → Int)} (h : zf_M_gone x1 g0 = some o) : zv_Fn z_TB z_cl z_KX zy_M_gone zxm205 (2, 120) [.inr 0, .inl x1] [] [g0] (some o.1) [] [o.2] := zv_meth (K := (z_KF13, z_KC13, z_KL13, z_KT13, [], [], [], none)) (FT := z_FT) (MT := z_MT) (n := 2) zxp205 (z_ks13 _ (fun _ h => List.mem_cons_of_mem _ h) _ _ _ _ (fun j r h _ => by cases h)) (fun _ _ => zs_KX_p) zyw_M_gone (fun va F G h => by obtain ⟨rfl, _⟩ := h; rfl) (fun va F G h => by obtain ⟨rfl, _⟩ := h; rfl) rfl fun good va F G hB hret hvret hP => by
  obtain ⟨rfl, rfl, rfl⟩ := hP
  unfold zf_M_gone at h
  refine zv_ald hB zd205_0 rfl rfl rfl ?_
  refine zv_ild hB zd205_1 rfl rfl ?_
  obtain ⟨r1, hr1, h⟩ := zi_bind h
  refine zv_cv hB (zv_emq (va2 := [.inr 0, .inl x1]) (F := []) (F' := []) (G := [g0]) (G' := [g0]) (ρ := [0, 1]) (φ := []) (ψ := [0]) [] [some 0] zyw_M_isTold zyw_M_gone zye_M_gone (by decide +kernel) (zt_M_isTold hr1) trivial ⟨rfl, trivial⟩ rfl rfl rfl rfl rfl rfl rfl) zd205_2 zxt203 rfl (by decide) (by decide) rfl ?_
  refine zv_zne hB zd205_5 rfl (fun hc2 => ?_) (fun hc2 => ?_)
  · rw [if_neg hc2] at h
    refine zv_ald hB zd205_10 rfl rfl rfl ?_
    refine zv_getr hB zd205_11 rfl ?_
    refine zv_con hB zd205_14 rfl ?_
    refine zv_ald hB zd205_16 rfl rfl rfl ?_
    refine zv_getr hB zd205_17 rfl ?_
    refine zv_con hB zd205_20 rfl ?_
    refine zv_iald hB zd205_22 rfl rfl (by decide) (by decide) (fun _ _ => ?_)
    refine zv_con hB zd205_23 rfl ?_
    refine zv_ild hB zd205_24 rfl rfl ?_
    refine zv_shlw hB zd205_25 ?_
    refine zv_con hB zd205_26 rfl ?_
    refine zv_xorw hB zd205_27 ?_
    refine zv_andw hB zd205_28 ?_
    refine zv_iast hB zd205_29 rfl rfl (by decide) (by decide) ?_
    refine zv_con hB zd205_30 rfl ?_
    have hw := Option.some.inj h
    subst hw
    exact hret _ _ _ _ _ zd205_31 (by constructor <;> decide) ⟨rfl, rfl, rfl⟩
  · rw [if_pos hc2] at h
    refine zv_con hB zd205_8 rfl ?_
    have hw := Option.some.inj h
    subst hw
    exact hret _ _ _ _ _ zd205_9 (by constructor <;> decide) ⟨rfl, rfl, rfl⟩
/-! M_hour (I)Z -/
-- names: 0 StarTalesModel('arg', 0), 1 (0, 422)(0, 12, 0)
-- fields: ; arrays: g0 = 1; out: [('ret', None), ('g', 0)]
abbrev zy_M_hour : zNL := (2, [(0, 12)], [], [(0, 12, 0, 1)], [(1, 0, 422, 0)])
theorem zyw_M_hour : zv_wf zy_M_hour = true := by decide +kernel
theorem zye_M_hour : zv_ek2 zy_M_hour = true := by decide +kernel
def zf_M_hour (x1 : Int) (g0 : (Int → Int)) : Option (Int × (Int → Int)) := (zf_M_in x1 0 23).bind fun r1 => (if r1 = 0 then (some (0, g0)) else (some (1, (zv_up g0 128 x1))))
theorem zd206_0 : decode zxm206.2.1 0 = .ok (.iload_n 1, 1) := by decide +kernel
theorem zd206_1 : decode zxm206.2.1 1 = .ok (.iconst 0, 1) := by decide +kernel
theorem zd206_2 : decode zxm206.2.1 2 = .ok (.bipush 23, 2) := by decide +kernel
theorem zd206_4 : decode zxm206.2.1 4 = .ok (.invokestatic 150, 3) := by decide +kernel
theorem zd206_7 : decode zxm206.2.1 7 = .ok (.ifCond .ne 5, 3) := by decide +kernel
theorem zd206_10 : decode zxm206.2.1 10 = .ok (.iconst 0, 1) := by decide +kernel
theorem zd206_11 : decode zxm206.2.1 11 = .ok (.ireturn, 1) := by decide +kernel
theorem zd206_12 : decode zxm206.2.1 12 = .ok (.aload_n 0, 1) := by decide +kernel
theorem zd206_13 : decode zxm206.2.1 13 = .ok (.getfield 7, 3) := by decide +kernel
theorem zd206_16 : decode zxm206.2.1 16 = .ok (.sipush 128, 3) := by decide +kernel
theorem zd206_19 : decode zxm206.2.1 19 = .ok (.iload_n 1, 1) := by decide +kernel
theorem zd206_20 : decode zxm206.2.1 20 = .ok (.iastore, 1) := by decide +kernel
theorem zd206_21 : decode zxm206.2.1 21 = .ok (.iconst 1, 1) := by decide +kernel
theorem zd206_22 : decode zxm206.2.1 22 = .ok (.ireturn, 1) := by decide +kernel
theorem zt_M_hour {x1 : Int} {g0 : (Int → Int)} {o : Int × (Int → Int)} (h : zf_M_hour x1 g0 = some o) : zv_Fn z_TB z_cl z_KX zy_M_hour zxm206 (1, 60) [.inr 0, .inl x1] [] [g0] (some o.1) [] [o.2] := zv_meth (K := (z_KF13, z_KC13, z_KL13, z_KT13, [], [], [], none)) (FT := z_FT) (MT := z_MT) (n := 2) zxp206 (z_ks13 _ (fun _ h => List.mem_cons_of_mem _ h) _ _ _ _ (fun j r h _ => by cases h)) (fun _ _ => zs_KX_p) zyw_M_hour (fun va F G h => by obtain ⟨rfl, _⟩ := h; rfl) (fun va F G h => by obtain ⟨rfl, _⟩ := h; rfl) rfl fun good va F G hB hret hvret hP => by
  obtain ⟨rfl, rfl, rfl⟩ := hP
  unfold zf_M_hour at h
  refine zv_ild hB zd206_0 rfl rfl ?_
  refine zv_con hB zd206_1 rfl ?_
  refine zv_con hB zd206_2 rfl ?_
  obtain ⟨r1, hr1, h⟩ := zi_bind h
  refine zv_cs hB (zv_emq (va2 := [.inl x1, .inl 0, .inl 23]) (F := []) (F' := []) (G := [g0]) (G' := [g0]) (ρ := []) (φ := []) (ψ := []) [] [none] zyw_M_in zyw_M_hour zye_M_hour (by decide +kernel) (zt_M_in hr1) trivial trivial rfl rfl rfl rfl rfl rfl rfl) zd206_4 zxt200 rfl (by decide) (by decide) rfl ?_
  refine zv_zne hB zd206_7 rfl (fun hc2 => ?_) (fun hc2 => ?_)
  · rw [if_neg hc2] at h
    refine zv_ald hB zd206_12 rfl rfl rfl ?_
    refine zv_getr hB zd206_13 rfl ?_
    refine zv_con hB zd206_16 rfl ?_
    refine zv_ild hB zd206_19 rfl rfl ?_
    refine zv_iast hB zd206_20 rfl rfl (by decide) (by decide) ?_
    refine zv_con hB zd206_21 rfl ?_
    have hw := Option.some.inj h
    subst hw
    exact hret _ _ _ _ _ zd206_22 (by constructor <;> decide) ⟨rfl, rfl, rfl⟩
  · rw [if_pos hc2] at h
    refine zv_con hB zd206_10 rfl ?_
    have hw := Option.some.inj h
    subst hw
    exact hret _ _ _ _ _ zd206_11 (by constructor <;> decide) ⟨rfl, rfl, rfl⟩
/-! M_clouds (I)Z -/
-- names: 0 StarTalesModel('arg', 0), 1 (0, 422)(0, 12, 0)
-- fields: ; arrays: g0 = 1; out: [('ret', None), ('g', 0)]
abbrev zy_M_clouds : zNL := (2, [(0, 12)], [], [(0, 12, 0, 1)], [(1, 0, 422, 0)])
theorem zyw_M_clouds : zv_wf zy_M_clouds = true := by decide +kernel
theorem zye_M_clouds : zv_ek2 zy_M_clouds = true := by decide +kernel
def zf_M_clouds (x1 : Int) (g0 : (Int → Int)) : Option (Int × (Int → Int)) := (zf_M_in x1 0 16777215).bind fun r1 => (if r1 = 0 then (some (0, g0)) else (some (1, (zv_up g0 130 x1))))
theorem zd207_0 : decode zxm207.2.1 0 = .ok (.iload_n 1, 1) := by decide +kernel
theorem zd207_1 : decode zxm207.2.1 1 = .ok (.iconst 0, 1) := by decide +kernel
theorem zd207_2 : decode zxm207.2.1 2 = .ok (.ldc 161, 2) := by decide +kernel
theorem zd207_4 : decode zxm207.2.1 4 = .ok (.invokestatic 150, 3) := by decide +kernel
theorem zd207_7 : decode zxm207.2.1 7 = .ok (.ifCond .ne 5, 3) := by decide +kernel
theorem zd207_10 : decode zxm207.2.1 10 = .ok (.iconst 0, 1) := by decide +kernel
theorem zd207_11 : decode zxm207.2.1 11 = .ok (.ireturn, 1) := by decide +kernel
theorem zd207_12 : decode zxm207.2.1 12 = .ok (.aload_n 0, 1) := by decide +kernel
theorem zd207_13 : decode zxm207.2.1 13 = .ok (.getfield 7, 3) := by decide +kernel
theorem zd207_16 : decode zxm207.2.1 16 = .ok (.sipush 130, 3) := by decide +kernel
theorem zd207_19 : decode zxm207.2.1 19 = .ok (.iload_n 1, 1) := by decide +kernel
theorem zd207_20 : decode zxm207.2.1 20 = .ok (.iastore, 1) := by decide +kernel
theorem zd207_21 : decode zxm207.2.1 21 = .ok (.iconst 1, 1) := by decide +kernel
theorem zd207_22 : decode zxm207.2.1 22 = .ok (.ireturn, 1) := by decide +kernel
theorem zt_M_clouds {x1 : Int} {g0 : (Int → Int)} {o : Int × (Int → Int)} (h : zf_M_clouds x1 g0 = some o) : zv_Fn z_TB z_cl z_KX zy_M_clouds zxm207 (1, 60) [.inr 0, .inl x1] [] [g0] (some o.1) [] [o.2] := zv_meth (K := (z_KF13, z_KC13, z_KL13, z_KT13, [], [], [], none)) (FT := z_FT) (MT := z_MT) (n := 2) zxp207 (z_ks13 _ (fun _ h => List.mem_cons_of_mem _ h) _ _ _ _ (fun j r h _ => by cases h)) (fun _ _ => zs_KX_p) zyw_M_clouds (fun va F G h => by obtain ⟨rfl, _⟩ := h; rfl) (fun va F G h => by obtain ⟨rfl, _⟩ := h; rfl) rfl fun good va F G hB hret hvret hP => by
  obtain ⟨rfl, rfl, rfl⟩ := hP
  unfold zf_M_clouds at h
  refine zv_ild hB zd207_0 rfl rfl ?_
  refine zv_con hB zd207_1 rfl ?_
  refine zv_con (n := 16777215) hB zd207_2 (by decide +kernel) ?_
  obtain ⟨r1, hr1, h⟩ := zi_bind h
  refine zv_cs hB (zv_emq (va2 := [.inl x1, .inl 0, .inl 16777215]) (F := []) (F' := []) (G := [g0]) (G' := [g0]) (ρ := []) (φ := []) (ψ := []) [] [none] zyw_M_in zyw_M_clouds zye_M_clouds (by decide +kernel) (zt_M_in hr1) trivial trivial rfl rfl rfl rfl rfl rfl rfl) zd207_4 zxt200 rfl (by decide) (by decide) rfl ?_
  refine zv_zne hB zd207_7 rfl (fun hc2 => ?_) (fun hc2 => ?_)
  · rw [if_neg hc2] at h
    refine zv_ald hB zd207_12 rfl rfl rfl ?_
    refine zv_getr hB zd207_13 rfl ?_
    refine zv_con hB zd207_16 rfl ?_
    refine zv_ild hB zd207_19 rfl rfl ?_
    refine zv_iast hB zd207_20 rfl rfl (by decide) (by decide) ?_
    refine zv_con hB zd207_21 rfl ?_
    have hw := Option.some.inj h
    subst hw
    exact hret _ _ _ _ _ zd207_22 (by constructor <;> decide) ⟨rfl, rfl, rfl⟩
  · rw [if_pos hc2] at h
    refine zv_con hB zd207_10 rfl ?_
    have hw := Option.some.inj h
    subst hw
    exact hret _ _ _ _ _ zd207_11 (by constructor <;> decide) ⟨rfl, rfl, rfl⟩
/-! M_sight (II)Z -/
-- names: 0 StarTalesModel('arg', 0), 1 (0, 422)(0, 12, 0)
-- fields: ; arrays: g0 = 1; out: [('ret', None), ('g', 0)]
abbrev zy_M_sight : zNL := (2, [(0, 12)], [], [(0, 12, 0, 1)], [(1, 0, 422, 0)])
theorem zyw_M_sight : zv_wf zy_M_sight = true := by decide +kernel
theorem zye_M_sight : zv_ek2 zy_M_sight = true := by decide +kernel
def zf_M_sight (x1 : Int) (x2 : Int) (g0 : (Int → Int)) : Option (Int × (Int → Int)) := (zf_M_in x1 0 11).bind fun r1 => (if r1 = 0 then (some (0, g0)) else ((zf_M_in x2 0 11).bind fun r3 => (if r3 = 0 then (some (0, g0)) else (some (1, (zv_up (zv_up g0 131 x1) 132 x2))))))
theorem zd208_0 : decode zxm208.2.1 0 = .ok (.iload_n 1, 1) := by decide +kernel
theorem zd208_1 : decode zxm208.2.1 1 = .ok (.iconst 0, 1) := by decide +kernel
theorem zd208_2 : decode zxm208.2.1 2 = .ok (.bipush 11, 2) := by decide +kernel
theorem zd208_4 : decode zxm208.2.1 4 = .ok (.invokestatic 150, 3) := by decide +kernel
theorem zd208_7 : decode zxm208.2.1 7 = .ok (.ifCond .eq 13, 3) := by decide +kernel
theorem zd208_10 : decode zxm208.2.1 10 = .ok (.iload_n 2, 1) := by decide +kernel
theorem zd208_11 : decode zxm208.2.1 11 = .ok (.iconst 0, 1) := by decide +kernel
theorem zd208_12 : decode zxm208.2.1 12 = .ok (.bipush 11, 2) := by decide +kernel
theorem zd208_14 : decode zxm208.2.1 14 = .ok (.invokestatic 150, 3) := by decide +kernel
theorem zd208_17 : decode zxm208.2.1 17 = .ok (.ifCond .ne 5, 3) := by decide +kernel
theorem zd208_20 : decode zxm208.2.1 20 = .ok (.iconst 0, 1) := by decide +kernel
theorem zd208_21 : decode zxm208.2.1 21 = .ok (.ireturn, 1) := by decide +kernel
theorem zd208_22 : decode zxm208.2.1 22 = .ok (.aload_n 0, 1) := by decide +kernel
theorem zd208_23 : decode zxm208.2.1 23 = .ok (.getfield 7, 3) := by decide +kernel
theorem zd208_26 : decode zxm208.2.1 26 = .ok (.sipush 131, 3) := by decide +kernel
theorem zd208_29 : decode zxm208.2.1 29 = .ok (.iload_n 1, 1) := by decide +kernel
theorem zd208_30 : decode zxm208.2.1 30 = .ok (.iastore, 1) := by decide +kernel
theorem zd208_31 : decode zxm208.2.1 31 = .ok (.aload_n 0, 1) := by decide +kernel
theorem zd208_32 : decode zxm208.2.1 32 = .ok (.getfield 7, 3) := by decide +kernel
theorem zd208_35 : decode zxm208.2.1 35 = .ok (.sipush 132, 3) := by decide +kernel
theorem zd208_38 : decode zxm208.2.1 38 = .ok (.iload_n 2, 1) := by decide +kernel
theorem zd208_39 : decode zxm208.2.1 39 = .ok (.iastore, 1) := by decide +kernel
theorem zd208_40 : decode zxm208.2.1 40 = .ok (.iconst 1, 1) := by decide +kernel
theorem zd208_41 : decode zxm208.2.1 41 = .ok (.ireturn, 1) := by decide +kernel
theorem zt_M_sight {x1 : Int} {x2 : Int} {g0 : (Int → Int)} {o : Int × (Int → Int)} (h : zf_M_sight x1 x2 g0 = some o) : zv_Fn z_TB z_cl z_KX zy_M_sight zxm208 (1, 60) [.inr 0, .inl x1, .inl x2] [] [g0] (some o.1) [] [o.2] := zv_meth (K := (z_KF13, z_KC13, z_KL13, z_KT13, [], [], [], none)) (FT := z_FT) (MT := z_MT) (n := 3) zxp208 (z_ks13 _ (fun _ h => List.mem_cons_of_mem _ h) _ _ _ _ (fun j r h _ => by cases h)) (fun _ _ => zs_KX_p) zyw_M_sight (fun va F G h => by obtain ⟨rfl, _⟩ := h; rfl) (fun va F G h => by obtain ⟨rfl, _⟩ := h; rfl) rfl fun good va F G hB hret hvret hP => by
  obtain ⟨rfl, rfl, rfl⟩ := hP
  unfold zf_M_sight at h
  refine zv_ild hB zd208_0 rfl rfl ?_
  refine zv_con hB zd208_1 rfl ?_
  refine zv_con hB zd208_2 rfl ?_
  obtain ⟨r1, hr1, h⟩ := zi_bind h
  refine zv_cs hB (zv_emq (va2 := [.inl x1, .inl 0, .inl 11]) (F := []) (F' := []) (G := [g0]) (G' := [g0]) (ρ := []) (φ := []) (ψ := []) [] [none] zyw_M_in zyw_M_sight zye_M_sight (by decide +kernel) (zt_M_in hr1) trivial trivial rfl rfl rfl rfl rfl rfl rfl) zd208_4 zxt200 rfl (by decide) (by decide) rfl ?_
  refine zv_zeq hB zd208_7 rfl (fun hc2 => ?_) (fun hc2 => ?_)
  · rw [if_pos hc2] at h
    refine zv_con hB zd208_20 rfl ?_
    have hw := Option.some.inj h
    subst hw
    exact hret _ _ _ _ _ zd208_21 (by constructor <;> decide) ⟨rfl, rfl, rfl⟩
  · rw [if_neg hc2] at h
    refine zv_ild hB zd208_10 rfl rfl ?_
    refine zv_con hB zd208_11 rfl ?_
    refine zv_con hB zd208_12 rfl ?_
    obtain ⟨r3, hr3, h⟩ := zi_bind h
    refine zv_cs hB (zv_emq (va2 := [.inl x2, .inl 0, .inl 11]) (F := []) (F' := []) (G := [g0]) (G' := [g0]) (ρ := []) (φ := []) (ψ := []) [] [none] zyw_M_in zyw_M_sight zye_M_sight (by decide +kernel) (zt_M_in hr3) trivial trivial rfl rfl rfl rfl rfl rfl rfl) zd208_14 zxt200 rfl (by decide) (by decide) rfl ?_
    refine zv_zne hB zd208_17 rfl (fun hc4 => ?_) (fun hc4 => ?_)
    · rw [if_neg hc4] at h
      refine zv_ald hB zd208_22 rfl rfl rfl ?_
      refine zv_getr hB zd208_23 rfl ?_
      refine zv_con hB zd208_26 rfl ?_
      refine zv_ild hB zd208_29 rfl rfl ?_
      refine zv_iast hB zd208_30 rfl rfl (by decide) (by decide) ?_
      refine zv_ald hB zd208_31 rfl rfl rfl ?_
      refine zv_getr hB zd208_32 rfl ?_
      refine zv_con hB zd208_35 rfl ?_
      refine zv_ild hB zd208_38 rfl rfl ?_
      refine zv_iast hB zd208_39 rfl rfl (by decide) (by decide) ?_
      refine zv_con hB zd208_40 rfl ?_
      have hw := Option.some.inj h
      subst hw
      exact hret _ _ _ _ _ zd208_41 (by constructor <;> decide) ⟨rfl, rfl, rfl⟩
    · rw [if_pos hc4] at h
      refine zv_con hB zd208_20 rfl ?_
      have hw := Option.some.inj h
      subst hw
      exact hret _ _ _ _ _ zd208_21 (by constructor <;> decide) ⟨rfl, rfl, rfl⟩
end
