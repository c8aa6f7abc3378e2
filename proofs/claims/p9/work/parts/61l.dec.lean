/-! Methods as functions, and that they do what these do. -/
/-! X_byTwo (IIIII)I -/
-- names: 0 StarTales('arg', 0), 1 Sea(0, 0, 3), 2 Sky(0, 0, 0), 3 Sky(0, 0, 2), 4 (0, 24)(2, 1, 1), 5 (0, 24)(3, 1, 1), 6 (0, 24)(2, 1, 2), 7 (0, 24)(3, 1, 2), 8 (0, 24)(2, 1, 3), 9 (0, 24)(3, 1, 3), 10 (0, 24)(2, 1, 4), 11 (0, 24)(3, 1, 4), 12 (0, 24)(2, 1, 5), 13 (0, 24)(3, 1, 5), 14 View(0, 0, 12), 15 Law(0, 0, 7), 16 (0, 24)(14, 7, 8), 17 Pilot(0, 0, 15), 18 (0, 6)(1, 2, 2), 19 (0, 24)(17, 9, 4), 20 (0, 13)(15, 4, 12), 21 (0, 14)(15, 4, 3), 22 (0, 14)(15, 4, 5), 23 (0, 14)(15, 4, 6), 24 (0, 200)(15, 4, 0), 25 (0, 40)(15, 4, 13), 26 (0, 200)(15, 4, 1), 27 (0, 12)(1, 2, 0), 28 (0, 264)(17, 9, 5), 29 (0, 264)(17, 9, 6), 30 (0, 264)(17, 9, 7), 31 (0, 288)(17, 9, 11), 32 (0, 264)(17, 9, 8)
-- fields: f0 = 1.shipsTold_, f1 = 2.told_, f2 = 3.told_, f3 = 2.hour_, f4 = 3.hour_, f5 = 2.night_, f6 = 3.night_, f7 = 2.clouds_, f8 = 3.clouds_, f9 = 2.sightColumns_, f10 = 3.sightColumns_, f11 = 2.sightRows_, f12 = 3.sightRows_, f13 = 2.chance_, f14 = 3.chance_, f15 = 0.ruling_, f16 = 14.sky_, f17 = 14.law_, f18 = 14.starsAsked_, f19 = 17.legs_, f20 = 14.x_, f21 = 14.y_, f22 = 15.tellsSeen_, f23 = 14.starsHold_, f24 = 15.clauses_, f25 = 15.answer_, f26 = 15.seenByPlace_, f27 = 17.best_, f28 = 17.hoursTaken_, f29 = 17.firstStar_, f30 = 17.turn_, f31 = 17.secondStar_; arrays: g0 = 4, g1 = 5, g2 = 6, g3 = 7, g4 = 8, g5 = 9, g6 = 10, g7 = 11, g8 = 12, g9 = 13, g10 = 16, g11 = 18, g12 = 19, g13 = 20, g14 = 21, g15 = 22, g16 = 23, g17 = 24, g18 = 25, g19 = 26, g20 = 27, g21 = 28, g22 = 29, g23 = 30, g24 = 31, g25 = 32; out: [('ret', None), ('f', 2), ('f', 4), ('f', 6), ('f', 8), ('f', 10), ('f', 12), ('f', 14), ('f', 18), ('f', 19), ('f', 20), ('f', 21), ('f', 23), ('f', 25), ('f', 27), ('f', 28), ('f', 29), ('f', 30), ('f', 31), ('g', 1), ('g', 3), ('g', 5), ('g', 7), ('g', 9), ('g', 10), ('g', 12), ('g', 13), ('g', 18), ('g', 21), ('g', 22), ('g', 23), ('g', 24), ('g', 25)]
abbrev zy_X_byTwo : zNL := (33, [(0, 0), (1, 2), (2, 1), (3, 1), (14, 7), (15, 4), (17, 9)], [(1, 2, 1, 0), (2, 1, 0, 1), (3, 1, 0, 2), (2, 1, 6, 3), (3, 1, 6, 4), (2, 1, 7, 5), (3, 1, 7, 6), (2, 1, 8, 7), (3, 1, 8, 8), (2, 1, 9, 9), (3, 1, 9, 10), (2, 1, 10, 11), (3, 1, 10, 12), (2, 1, 11, 13), (3, 1, 11, 14), (0, 0, 7, 15), (14, 7, 0, 16), (14, 7, 1, 17), (14, 7, 6, 18), (17, 9, 9, 19), (14, 7, 2, 20), (14, 7, 3, 21), (15, 4, 8, 22), (14, 7, 7, 23), (15, 4, 7, 24), (15, 4, 14, 25), (15, 4, 10, 26), (17, 9, 10, 27), (17, 9, 0, 28), (17, 9, 1, 29), (17, 9, 2, 30), (17, 9, 3, 31)], [(0, 0, 3, 1), (0, 0, 0, 2), (0, 0, 2, 3), (2, 1, 1, 4), (3, 1, 1, 5), (2, 1, 2, 6), (3, 1, 2, 7), (2, 1, 3, 8), (3, 1, 3, 9), (2, 1, 4, 10), (3, 1, 4, 11), (2, 1, 5, 12), (3, 1, 5, 13), (0, 0, 12, 14), (14, 7, 8, 16), (0, 0, 15, 17), (1, 2, 2, 18), (17, 9, 4, 19), (15, 4, 12, 20), (15, 4, 3, 21), (15, 4, 5, 22), (15, 4, 6, 23), (15, 4, 0, 24), (15, 4, 13, 25), (15, 4, 1, 26), (1, 2, 0, 27), (17, 9, 5, 28), (17, 9, 6, 29), (17, 9, 7, 30), (17, 9, 11, 31), (17, 9, 8, 32)], [(4, 0, 24, 0), (5, 0, 24, 1), (6, 0, 24, 2), (7, 0, 24, 3), (8, 0, 24, 4), (9, 0, 24, 5), (10, 0, 24, 6), (11, 0, 24, 7), (12, 0, 24, 8), (13, 0, 24, 9), (16, 0, 24, 10), (18, 0, 6, 11), (19, 0, 24, 12), (20, 0, 13, 13), (21, 0, 14, 14), (22, 0, 14, 15), (23, 0, 14, 16), (24, 0, 200, 17), (25, 0, 40, 18), (26, 0, 200, 19), (27, 0, 12, 20), (28, 0, 264, 21), (29, 0, 264, 22), (30, 0, 264, 23), (31, 0, 288, 24), (32, 0, 264, 25)])
theorem zyw_X_byTwo : zv_wf zy_X_byTwo = true := by decide +kernel
theorem zye_X_byTwo : zv_ek2 zy_X_byTwo = true := by decide +kernel
def zf_X_byTwo (x1 : Int) (x2 : Int) (x3 : Int) (x4 : Int) (x5 : Int) (f0 : Int) (f1 : Int) (f2 : Int) (f3 : Int) (f4 : Int) (f5 : Int) (f6 : Int) (f7 : Int) (f8 : Int) (f9 : Int) (f10 : Int) (f11 : Int) (f12 : Int) (f13 : Int) (f14 : Int) (f18 : Int) (f19 : Int) (f20 : Int) (f21 : Int) (f22 : Int) (f23 : Int) (f24 : Int) (f25 : Int) (f26 : Int) (f27 : Int) (f28 : Int) (f29 : Int) (f30 : Int) (f31 : Int) (g0 : (Int → Int)) (g1 : (Int → Int)) (g2 : (Int → Int)) (g3 : (Int → Int)) (g4 : (Int → Int)) (g5 : (Int → Int)) (g6 : (Int → Int)) (g7 : (Int → Int)) (g8 : (Int → Int)) (g9 : (Int → Int)) (g10 : (Int → Int)) (g11 : (Int → Int)) (g12 : (Int → Int)) (g13 : (Int → Int)) (g14 : (Int → Int)) (g15 : (Int → Int)) (g16 : (Int → Int)) (g17 : (Int → Int)) (g18 : (Int → Int)) (g19 : (Int → Int)) (g20 : (Int → Int)) (g21 : (Int → Int)) (g22 : (Int → Int)) (g23 : (Int → Int)) (g24 : (Int → Int)) (g25 : (Int → Int)) : Option (Int × Int × Int × Int × Int × Int × Int × Int × Int × Int × Int × Int × Int × Int × Int × Int × Int × Int × Int × (Int → Int) × (Int → Int) × (Int → Int) × (Int → Int) × (Int → Int) × (Int → Int) × (Int → Int) × (Int → Int) × (Int → Int) × (Int → Int) × (Int → Int) × (Int → Int) × (Int → Int) × (Int → Int)) := (zf_X_canAskVoyage x1 x2 x3 f0 f1).bind fun r1 => (if r1 = 0 then (some ((-1), f2, f4, f6, f8, f10, f12, f14, f18, f19, f20, f21, f23, f25, f27, f28, f29, f30, f31, g1, g3, g5, g7, g9, g10, g12, g13, g18, g21, g22, g23, g24, g25)) else ((zf_X_isWithin x4 2 12).bind fun r3 => (if r3 = 0 then (some ((-1), f2, f4, f6, f8, f10, f12, f14, f18, f19, f20, f21, f23, f25, f27, f28, f29, f30, f31, g1, g3, g5, g7, g9, g10, g12, g13, g18, g21, g22, g23, g24, g25)) else ((zf_X_isWithin x5 0 3).bind fun r5 => (if r5 = 0 then (some ((-1), f2, f4, f6, f8, f10, f12, f14, f18, f19, f20, f21, f23, f25, f27, f28, f29, f30, f31, g1, g3, g5, g7, g9, g10, g12, g13, g18, g21, g22, g23, g24, g25)) else ((zf_Sky_copyFrom f1 f2 f3 f4 f5 f6 f7 f8 f9 f10 f11 f12 f13 f14 g0 g1 g2 g3 g4 g5 g6 g7 g8 g9).bind fun r7 => ((zf_View_open f18 g10).bind fun r8 => (cond (zi_ix x1 6) ((zf_X_placeOf x2 x3).bind fun r10 => ((zf_Pilot_findByTwo (g11 x1) r10 x4 f19 r7.1 f20 f21 r7.2.1 r7.2.2.1 r7.2.2.2.2.1 r7.2.2.2.2.2.1 r7.2.2.2.1 f22 r8.1 f23 f24 f25 f26 f1 f27 f3 f5 f7 f9 f11 f13 r7.2.2.2.2.2.2.1 f28 f29 f30 f31 g12 g13 r7.2.2.2.2.2.2.2.1 r7.2.2.2.2.2.2.2.2.1 r7.2.2.2.2.2.2.2.2.2.1 g14 g15 g16 g17 g18 g19 g20 g21 g22 g23 r7.2.2.2.2.2.2.2.2.2.2.1 r7.2.2.2.2.2.2.2.2.2.2.2 r8.2 g0 g2 g4 g6 g8 g24 g25).bind fun r11 => (if r11.1 = 0 then (some ((-2), r11.2.2.1, r11.2.2.2.2.2.1, r11.2.2.2.2.2.2.1, r11.2.2.2.2.2.2.2.2.2.1, r11.2.2.2.2.2.2.2.1, r11.2.2.2.2.2.2.2.2.1, r11.2.2.2.2.2.2.2.2.2.2.2.2.2.2.1, r11.2.2.2.2.2.2.2.2.2.2.1, r11.2.1, r11.2.2.2.1, r11.2.2.2.2.1, r11.2.2.2.2.2.2.2.2.2.2.2.1, r11.2.2.2.2.2.2.2.2.2.2.2.2.1, r11.2.2.2.2.2.2.2.2.2.2.2.2.2.1, r11.2.2.2.2.2.2.2.2.2.2.2.2.2.2.2.1, r11.2.2.2.2.2.2.2.2.2.2.2.2.2.2.2.2.1, r11.2.2.2.2.2.2.2.2.2.2.2.2.2.2.2.2.2.1, r11.2.2.2.2.2.2.2.2.2.2.2.2.2.2.2.2.2.2.1, r11.2.2.2.2.2.2.2.2.2.2.2.2.2.2.2.2.2.2.2.2.2.1, r11.2.2.2.2.2.2.2.2.2.2.2.2.2.2.2.2.2.2.2.2.2.2.1, r11.2.2.2.2.2.2.2.2.2.2.2.2.2.2.2.2.2.2.2.2.2.2.2.1, r11.2.2.2.2.2.2.2.2.2.2.2.2.2.2.2.2.2.2.2.2.2.2.2.2.2.2.2.2.1, r11.2.2.2.2.2.2.2.2.2.2.2.2.2.2.2.2.2.2.2.2.2.2.2.2.2.2.2.2.2.1, r11.2.2.2.2.2.2.2.2.2.2.2.2.2.2.2.2.2.2.2.2.2.2.2.2.2.2.2.2.2.2.1, r11.2.2.2.2.2.2.2.2.2.2.2.2.2.2.2.2.2.2.2.1, r11.2.2.2.2.2.2.2.2.2.2.2.2.2.2.2.2.2.2.2.2.1, r11.2.2.2.2.2.2.2.2.2.2.2.2.2.2.2.2.2.2.2.2.2.2.2.2.1, r11.2.2.2.2.2.2.2.2.2.2.2.2.2.2.2.2.2.2.2.2.2.2.2.2.2.1, r11.2.2.2.2.2.2.2.2.2.2.2.2.2.2.2.2.2.2.2.2.2.2.2.2.2.2.1, r11.2.2.2.2.2.2.2.2.2.2.2.2.2.2.2.2.2.2.2.2.2.2.2.2.2.2.2.1, r11.2.2.2.2.2.2.2.2.2.2.2.2.2.2.2.2.2.2.2.2.2.2.2.2.2.2.2.2.2.2.2.1, r11.2.2.2.2.2.2.2.2.2.2.2.2.2.2.2.2.2.2.2.2.2.2.2.2.2.2.2.2.2.2.2.2)) else (if x5 = 0 then (some (r11.2.2.2.2.2.2.2.2.2.2.2.2.2.2.2.1, r11.2.2.1, r11.2.2.2.2.2.1, r11.2.2.2.2.2.2.1, r11.2.2.2.2.2.2.2.2.2.1, r11.2.2.2.2.2.2.2.1, r11.2.2.2.2.2.2.2.2.1, r11.2.2.2.2.2.2.2.2.2.2.2.2.2.2.1, r11.2.2.2.2.2.2.2.2.2.2.1, r11.2.1, r11.2.2.2.1, r11.2.2.2.2.1, r11.2.2.2.2.2.2.2.2.2.2.2.1, r11.2.2.2.2.2.2.2.2.2.2.2.2.1, r11.2.2.2.2.2.2.2.2.2.2.2.2.2.1, r11.2.2.2.2.2.2.2.2.2.2.2.2.2.2.2.1, r11.2.2.2.2.2.2.2.2.2.2.2.2.2.2.2.2.1, r11.2.2.2.2.2.2.2.2.2.2.2.2.2.2.2.2.2.1, r11.2.2.2.2.2.2.2.2.2.2.2.2.2.2.2.2.2.2.1, r11.2.2.2.2.2.2.2.2.2.2.2.2.2.2.2.2.2.2.2.2.2.1, r11.2.2.2.2.2.2.2.2.2.2.2.2.2.2.2.2.2.2.2.2.2.2.1, r11.2.2.2.2.2.2.2.2.2.2.2.2.2.2.2.2.2.2.2.2.2.2.2.1, r11.2.2.2.2.2.2.2.2.2.2.2.2.2.2.2.2.2.2.2.2.2.2.2.2.2.2.2.2.1, r11.2.2.2.2.2.2.2.2.2.2.2.2.2.2.2.2.2.2.2.2.2.2.2.2.2.2.2.2.2.1, r11.2.2.2.2.2.2.2.2.2.2.2.2.2.2.2.2.2.2.2.2.2.2.2.2.2.2.2.2.2.2.1, r11.2.2.2.2.2.2.2.2.2.2.2.2.2.2.2.2.2.2.2.1, r11.2.2.2.2.2.2.2.2.2.2.2.2.2.2.2.2.2.2.2.2.1, r11.2.2.2.2.2.2.2.2.2.2.2.2.2.2.2.2.2.2.2.2.2.2.2.2.1, r11.2.2.2.2.2.2.2.2.2.2.2.2.2.2.2.2.2.2.2.2.2.2.2.2.2.1, r11.2.2.2.2.2.2.2.2.2.2.2.2.2.2.2.2.2.2.2.2.2.2.2.2.2.2.1, r11.2.2.2.2.2.2.2.2.2.2.2.2.2.2.2.2.2.2.2.2.2.2.2.2.2.2.2.1, r11.2.2.2.2.2.2.2.2.2.2.2.2.2.2.2.2.2.2.2.2.2.2.2.2.2.2.2.2.2.2.2.1, r11.2.2.2.2.2.2.2.2.2.2.2.2.2.2.2.2.2.2.2.2.2.2.2.2.2.2.2.2.2.2.2.2)) else (if x5 = 1 then (some (r11.2.2.2.2.2.2.2.2.2.2.2.2.2.2.2.2.1, r11.2.2.1, r11.2.2.2.2.2.1, r11.2.2.2.2.2.2.1, r11.2.2.2.2.2.2.2.2.2.1, r11.2.2.2.2.2.2.2.1, r11.2.2.2.2.2.2.2.2.1, r11.2.2.2.2.2.2.2.2.2.2.2.2.2.2.1, r11.2.2.2.2.2.2.2.2.2.2.1, r11.2.1, r11.2.2.2.1, r11.2.2.2.2.1, r11.2.2.2.2.2.2.2.2.2.2.2.1, r11.2.2.2.2.2.2.2.2.2.2.2.2.1, r11.2.2.2.2.2.2.2.2.2.2.2.2.2.1, r11.2.2.2.2.2.2.2.2.2.2.2.2.2.2.2.1, r11.2.2.2.2.2.2.2.2.2.2.2.2.2.2.2.2.1, r11.2.2.2.2.2.2.2.2.2.2.2.2.2.2.2.2.2.1, r11.2.2.2.2.2.2.2.2.2.2.2.2.2.2.2.2.2.2.1, r11.2.2.2.2.2.2.2.2.2.2.2.2.2.2.2.2.2.2.2.2.2.1, r11.2.2.2.2.2.2.2.2.2.2.2.2.2.2.2.2.2.2.2.2.2.2.1, r11.2.2.2.2.2.2.2.2.2.2.2.2.2.2.2.2.2.2.2.2.2.2.2.1, r11.2.2.2.2.2.2.2.2.2.2.2.2.2.2.2.2.2.2.2.2.2.2.2.2.2.2.2.2.1, r11.2.2.2.2.2.2.2.2.2.2.2.2.2.2.2.2.2.2.2.2.2.2.2.2.2.2.2.2.2.1, r11.2.2.2.2.2.2.2.2.2.2.2.2.2.2.2.2.2.2.2.2.2.2.2.2.2.2.2.2.2.2.1, r11.2.2.2.2.2.2.2.2.2.2.2.2.2.2.2.2.2.2.2.1, r11.2.2.2.2.2.2.2.2.2.2.2.2.2.2.2.2.2.2.2.2.1, r11.2.2.2.2.2.2.2.2.2.2.2.2.2.2.2.2.2.2.2.2.2.2.2.2.1, r11.2.2.2.2.2.2.2.2.2.2.2.2.2.2.2.2.2.2.2.2.2.2.2.2.2.1, r11.2.2.2.2.2.2.2.2.2.2.2.2.2.2.2.2.2.2.2.2.2.2.2.2.2.2.1, r11.2.2.2.2.2.2.2.2.2.2.2.2.2.2.2.2.2.2.2.2.2.2.2.2.2.2.2.1, r11.2.2.2.2.2.2.2.2.2.2.2.2.2.2.2.2.2.2.2.2.2.2.2.2.2.2.2.2.2.2.2.1, r11.2.2.2.2.2.2.2.2.2.2.2.2.2.2.2.2.2.2.2.2.2.2.2.2.2.2.2.2.2.2.2.2)) else (if x5 = 2 then (some (r11.2.2.2.2.2.2.2.2.2.2.2.2.2.2.2.2.2.1, r11.2.2.1, r11.2.2.2.2.2.1, r11.2.2.2.2.2.2.1, r11.2.2.2.2.2.2.2.2.2.1, r11.2.2.2.2.2.2.2.1, r11.2.2.2.2.2.2.2.2.1, r11.2.2.2.2.2.2.2.2.2.2.2.2.2.2.1, r11.2.2.2.2.2.2.2.2.2.2.1, r11.2.1, r11.2.2.2.1, r11.2.2.2.2.1, r11.2.2.2.2.2.2.2.2.2.2.2.1, r11.2.2.2.2.2.2.2.2.2.2.2.2.1, r11.2.2.2.2.2.2.2.2.2.2.2.2.2.1, r11.2.2.2.2.2.2.2.2.2.2.2.2.2.2.2.1, r11.2.2.2.2.2.2.2.2.2.2.2.2.2.2.2.2.1, r11.2.2.2.2.2.2.2.2.2.2.2.2.2.2.2.2.2.1, r11.2.2.2.2.2.2.2.2.2.2.2.2.2.2.2.2.2.2.1, r11.2.2.2.2.2.2.2.2.2.2.2.2.2.2.2.2.2.2.2.2.2.1, r11.2.2.2.2.2.2.2.2.2.2.2.2.2.2.2.2.2.2.2.2.2.2.1, r11.2.2.2.2.2.2.2.2.2.2.2.2.2.2.2.2.2.2.2.2.2.2.2.1, r11.2.2.2.2.2.2.2.2.2.2.2.2.2.2.2.2.2.2.2.2.2.2.2.2.2.2.2.2.1, r11.2.2.2.2.2.2.2.2.2.2.2.2.2.2.2.2.2.2.2.2.2.2.2.2.2.2.2.2.2.1, r11.2.2.2.2.2.2.2.2.2.2.2.2.2.2.2.2.2.2.2.2.2.2.2.2.2.2.2.2.2.2.1, r11.2.2.2.2.2.2.2.2.2.2.2.2.2.2.2.2.2.2.2.1, r11.2.2.2.2.2.2.2.2.2.2.2.2.2.2.2.2.2.2.2.2.1, r11.2.2.2.2.2.2.2.2.2.2.2.2.2.2.2.2.2.2.2.2.2.2.2.2.1, r11.2.2.2.2.2.2.2.2.2.2.2.2.2.2.2.2.2.2.2.2.2.2.2.2.2.1, r11.2.2.2.2.2.2.2.2.2.2.2.2.2.2.2.2.2.2.2.2.2.2.2.2.2.2.1, r11.2.2.2.2.2.2.2.2.2.2.2.2.2.2.2.2.2.2.2.2.2.2.2.2.2.2.2.1, r11.2.2.2.2.2.2.2.2.2.2.2.2.2.2.2.2.2.2.2.2.2.2.2.2.2.2.2.2.2.2.2.1, r11.2.2.2.2.2.2.2.2.2.2.2.2.2.2.2.2.2.2.2.2.2.2.2.2.2.2.2.2.2.2.2.2)) else (some (r11.2.2.2.2.2.2.2.2.2.2.2.2.2.2.2.2.2.2.1, r11.2.2.1, r11.2.2.2.2.2.1, r11.2.2.2.2.2.2.1, r11.2.2.2.2.2.2.2.2.2.1, r11.2.2.2.2.2.2.2.1, r11.2.2.2.2.2.2.2.2.1, r11.2.2.2.2.2.2.2.2.2.2.2.2.2.2.1, r11.2.2.2.2.2.2.2.2.2.2.1, r11.2.1, r11.2.2.2.1, r11.2.2.2.2.1, r11.2.2.2.2.2.2.2.2.2.2.2.1, r11.2.2.2.2.2.2.2.2.2.2.2.2.1, r11.2.2.2.2.2.2.2.2.2.2.2.2.2.1, r11.2.2.2.2.2.2.2.2.2.2.2.2.2.2.2.1, r11.2.2.2.2.2.2.2.2.2.2.2.2.2.2.2.2.1, r11.2.2.2.2.2.2.2.2.2.2.2.2.2.2.2.2.2.1, r11.2.2.2.2.2.2.2.2.2.2.2.2.2.2.2.2.2.2.1, r11.2.2.2.2.2.2.2.2.2.2.2.2.2.2.2.2.2.2.2.2.2.1, r11.2.2.2.2.2.2.2.2.2.2.2.2.2.2.2.2.2.2.2.2.2.2.1, r11.2.2.2.2.2.2.2.2.2.2.2.2.2.2.2.2.2.2.2.2.2.2.2.1, r11.2.2.2.2.2.2.2.2.2.2.2.2.2.2.2.2.2.2.2.2.2.2.2.2.2.2.2.2.1, r11.2.2.2.2.2.2.2.2.2.2.2.2.2.2.2.2.2.2.2.2.2.2.2.2.2.2.2.2.2.1, r11.2.2.2.2.2.2.2.2.2.2.2.2.2.2.2.2.2.2.2.2.2.2.2.2.2.2.2.2.2.2.1, r11.2.2.2.2.2.2.2.2.2.2.2.2.2.2.2.2.2.2.2.1, r11.2.2.2.2.2.2.2.2.2.2.2.2.2.2.2.2.2.2.2.2.1, r11.2.2.2.2.2.2.2.2.2.2.2.2.2.2.2.2.2.2.2.2.2.2.2.2.1, r11.2.2.2.2.2.2.2.2.2.2.2.2.2.2.2.2.2.2.2.2.2.2.2.2.2.1, r11.2.2.2.2.2.2.2.2.2.2.2.2.2.2.2.2.2.2.2.2.2.2.2.2.2.2.1, r11.2.2.2.2.2.2.2.2.2.2.2.2.2.2.2.2.2.2.2.2.2.2.2.2.2.2.2.1, r11.2.2.2.2.2.2.2.2.2.2.2.2.2.2.2.2.2.2.2.2.2.2.2.2.2.2.2.2.2.2.2.1, r11.2.2.2.2.2.2.2.2.2.2.2.2.2.2.2.2.2.2.2.2.2.2.2.2.2.2.2.2.2.2.2.2)))))))) none))))))))
theorem zd170_0 : decode zxm170.2.1 0 = .ok (.aload_n 0, 1) := by decide +kernel
theorem zd170_1 : decode zxm170.2.1 1 = .ok (.iload_n 1, 1) := by decide +kernel
theorem zd170_2 : decode zxm170.2.1 2 = .ok (.iload_n 2, 1) := by decide +kernel
theorem zd170_3 : decode zxm170.2.1 3 = .ok (.iload_n 3, 1) := by decide +kernel
theorem zd170_4 : decode zxm170.2.1 4 = .ok (.invokevirtual 353, 3) := by decide +kernel
theorem zd170_7 : decode zxm170.2.1 7 = .ok (.ifCond .eq 24, 3) := by decide +kernel
theorem zd170_10 : decode zxm170.2.1 10 = .ok (.iload 4, 2) := by decide +kernel
theorem zd170_12 : decode zxm170.2.1 12 = .ok (.iconst 2, 1) := by decide +kernel
theorem zd170_13 : decode zxm170.2.1 13 = .ok (.bipush 12, 2) := by decide +kernel
theorem zd170_15 : decode zxm170.2.1 15 = .ok (.invokestatic 126, 3) := by decide +kernel
theorem zd170_18 : decode zxm170.2.1 18 = .ok (.ifCond .eq 13, 3) := by decide +kernel
theorem zd170_21 : decode zxm170.2.1 21 = .ok (.iload 5, 2) := by decide +kernel
theorem zd170_23 : decode zxm170.2.1 23 = .ok (.iconst 0, 1) := by decide +kernel
theorem zd170_24 : decode zxm170.2.1 24 = .ok (.iconst 3, 1) := by decide +kernel
theorem zd170_25 : decode zxm170.2.1 25 = .ok (.invokestatic 126, 3) := by decide +kernel
theorem zd170_28 : decode zxm170.2.1 28 = .ok (.ifCond .ne 5, 3) := by decide +kernel
theorem zd170_31 : decode zxm170.2.1 31 = .ok (.iconst (-1), 1) := by decide +kernel
theorem zd170_32 : decode zxm170.2.1 32 = .ok (.ireturn, 1) := by decide +kernel
theorem zd170_33 : decode zxm170.2.1 33 = .ok (.aload_n 0, 1) := by decide +kernel
theorem zd170_34 : decode zxm170.2.1 34 = .ok (.getfield 19, 3) := by decide +kernel
theorem zd170_37 : decode zxm170.2.1 37 = .ok (.aload_n 0, 1) := by decide +kernel
theorem zd170_38 : decode zxm170.2.1 38 = .ok (.getfield 10, 3) := by decide +kernel
theorem zd170_41 : decode zxm170.2.1 41 = .ok (.invokevirtual 273, 3) := by decide +kernel
theorem zd170_44 : decode zxm170.2.1 44 = .ok (.aload_n 0, 1) := by decide +kernel
theorem zd170_45 : decode zxm170.2.1 45 = .ok (.getfield 81, 3) := by decide +kernel
theorem zd170_48 : decode zxm170.2.1 48 = .ok (.aload_n 0, 1) := by decide +kernel
theorem zd170_49 : decode zxm170.2.1 49 = .ok (.getfield 19, 3) := by decide +kernel
theorem zd170_52 : decode zxm170.2.1 52 = .ok (.aload_n 0, 1) := by decide +kernel
theorem zd170_53 : decode zxm170.2.1 53 = .ok (.getfield 46, 3) := by decide +kernel
theorem zd170_56 : decode zxm170.2.1 56 = .ok (.invokevirtual 211, 3) := by decide +kernel
theorem zd170_59 : decode zxm170.2.1 59 = .ok (.aload_n 0, 1) := by decide +kernel
theorem zd170_60 : decode zxm170.2.1 60 = .ok (.getfield 103, 3) := by decide +kernel
theorem zd170_63 : decode zxm170.2.1 63 = .ok (.aload_n 0, 1) := by decide +kernel
theorem zd170_64 : decode zxm170.2.1 64 = .ok (.getfield 81, 3) := by decide +kernel
theorem zd170_67 : decode zxm170.2.1 67 = .ok (.aload_n 0, 1) := by decide +kernel
theorem zd170_68 : decode zxm170.2.1 68 = .ok (.getfield 25, 3) := by decide +kernel
theorem zd170_71 : decode zxm170.2.1 71 = .ok (.aload_n 0, 1) := by decide +kernel
theorem zd170_72 : decode zxm170.2.1 72 = .ok (.getfield 10, 3) := by decide +kernel
theorem zd170_75 : decode zxm170.2.1 75 = .ok (.aload_n 0, 1) := by decide +kernel
theorem zd170_76 : decode zxm170.2.1 76 = .ok (.getfield 25, 3) := by decide +kernel
theorem zd170_79 : decode zxm170.2.1 79 = .ok (.getfield 187, 3) := by decide +kernel
theorem zd170_82 : decode zxm170.2.1 82 = .ok (.iload_n 1, 1) := by decide +kernel
theorem zd170_83 : decode zxm170.2.1 83 = .ok (.iaload, 1) := by decide +kernel
theorem zd170_84 : decode zxm170.2.1 84 = .ok (.iload_n 2, 1) := by decide +kernel
theorem zd170_85 : decode zxm170.2.1 85 = .ok (.iload_n 3, 1) := by decide +kernel
theorem zd170_86 : decode zxm170.2.1 86 = .ok (.invokestatic 170, 3) := by decide +kernel
theorem zd170_89 : decode zxm170.2.1 89 = .ok (.iload 4, 2) := by decide +kernel
theorem zd170_91 : decode zxm170.2.1 91 = .ok (.invokevirtual 366, 3) := by decide +kernel
theorem zd170_94 : decode zxm170.2.1 94 = .ok (.ifCond .ne 6, 3) := by decide +kernel
theorem zd170_97 : decode zxm170.2.1 97 = .ok (.bipush (-2), 2) := by decide +kernel
theorem zd170_99 : decode zxm170.2.1 99 = .ok (.ireturn, 1) := by decide +kernel
theorem zd170_100 : decode zxm170.2.1 100 = .ok (.iload 5, 2) := by decide +kernel
theorem zd170_102 : decode zxm170.2.1 102 = .ok (.tableswitch 50 0 2 #[26, 34, 42], 26) := by decide +kernel
theorem zd170_128 : decode zxm170.2.1 128 = .ok (.aload_n 0, 1) := by decide +kernel
theorem zd170_129 : decode zxm170.2.1 129 = .ok (.getfield 103, 3) := by decide +kernel
theorem zd170_132 : decode zxm170.2.1 132 = .ok (.getfield 360, 3) := by decide +kernel
theorem zd170_135 : decode zxm170.2.1 135 = .ok (.ireturn, 1) := by decide +kernel
theorem zd170_136 : decode zxm170.2.1 136 = .ok (.aload_n 0, 1) := by decide +kernel
theorem zd170_137 : decode zxm170.2.1 137 = .ok (.getfield 103, 3) := by decide +kernel
theorem zd170_140 : decode zxm170.2.1 140 = .ok (.getfield 363, 3) := by decide +kernel
theorem zd170_143 : decode zxm170.2.1 143 = .ok (.ireturn, 1) := by decide +kernel
theorem zd170_144 : decode zxm170.2.1 144 = .ok (.aload_n 0, 1) := by decide +kernel
theorem zd170_145 : decode zxm170.2.1 145 = .ok (.getfield 103, 3) := by decide +kernel
theorem zd170_148 : decode zxm170.2.1 148 = .ok (.getfield 370, 3) := by decide +kernel
theorem zd170_151 : decode zxm170.2.1 151 = .ok (.ireturn, 1) := by decide +kernel
theorem zd170_152 : decode zxm170.2.1 152 = .ok (.aload_n 0, 1) := by decide +kernel
theorem zd170_153 : decode zxm170.2.1 153 = .ok (.getfield 103, 3) := by decide +kernel
theorem zd170_156 : decode zxm170.2.1 156 = .ok (.getfield 373, 3) := by decide +kernel
theorem zd170_159 : decode zxm170.2.1 159 = .ok (.ireturn, 1) := by decide +kernel
theorem zt_X_byTwo {x1 : Int} {x2 : Int} {x3 : Int} {x4 : Int} {x5 : Int} {f0 : Int} {f1 : Int} {f2 : Int} {f3 : Int} {f4 : Int} {f5 : Int} {f6 : Int} {f7 : Int} {f8 : Int} {f9 : Int} {f10 : Int} {f11 : Int} {f12 : Int} {f13 : Int} {f14 : Int} {f18 : Int} {f19 : Int} {f20 : Int} {f21 : Int} {f22 : Int} {f23 : Int} {f24 : Int} {f25 : Int} {f26 : Int} {f27 : Int} {f28 : Int} {f29 : Int} {f30 : Int} {f31 : Int} {g0 : (Int → Int)} {g1 : (Int → Int)} {g2 : (Int → Int)} {g3 : (Int → Int)} {g4 : (Int → Int)} {g5 : (Int → Int)} {g6 : (Int → Int)} {g7 : (Int → Int)} {g8 : (Int → Int)} {g9 : (Int → Int)} {g10 : (Int → Int)} {g11 : (Int → Int)} {g12 : (Int → Int)} {g13 : (Int → Int)} {g14 : (Int → Int)} {g15 : (Int → Int)} {g16 : (Int → Int)} {g17 : (Int → Int)} {g18 : (Int → Int)} {g19 : (Int → Int)} {g20 : (Int → Int)} {g21 : (Int → Int)} {g22 : (Int → Int)} {g23 : (Int → Int)} {g24 : (Int → Int)} {g25 : (Int → Int)} {o : Int × Int × Int × Int × Int × Int × Int × Int × Int × Int × Int × Int × Int × Int × Int × Int × Int × Int × Int × (Int → Int) × (Int → Int) × (Int → Int) × (Int → Int) × (Int → Int) × (Int → Int) × (Int → Int) × (Int → Int) × (Int → Int) × (Int → Int) × (Int → Int) × (Int → Int) × (Int → Int) × (Int → Int)} (h : zf_X_byTwo x1 x2 x3 x4 x5 f0 f1 f2 f3 f4 f5 f6 f7 f8 f9 f10 f11 f12 f13 f14 f18 f19 f20 f21 f22 f23 f24 f25 f26 f27 f28 f29 f30 f31 g0 g1 g2 g3 g4 g5 g6 g7 g8 g9 g10 g11 g12 g13 g14 g15 g16 g17 g18 g19 g20 g21 g22 g23 g24 g25 = some o) : zv_Fn z_TB z_cl z_KX zy_X_byTwo zxm170 (7, 420) [.inr 0, .inl x1, .inl x2, .inl x3, .inl x4, .inl x5] [.inl f0, .inl f1, .inl f2, .inl f3, .inl f4, .inl f5, .inl f6, .inl f7, .inl f8, .inl f9, .inl f10, .inl f11, .inl f12, .inl f13, .inl f14, .inr 15, .inr 1000, .inr 1000, .inl f18, .inl f19, .inl f20, .inl f21, .inl f22, .inl f23, .inl f24, .inl f25, .inl f26, .inl f27, .inl f28, .inl f29, .inl f30, .inl f31] [g0, g1, g2, g3, g4, g5, g6, g7, g8, g9, g10, g11, g12, g13, g14, g15, g16, g17, g18, g19, g20, g21, g22, g23, g24, g25] (some o.1) [.inl f0, .inl f1, .inl o.2.1, .inl f3, .inl o.2.2.1, .inl f5, .inl o.2.2.2.1, .inl f7, .inl o.2.2.2.2.1, .inl f9, .inl o.2.2.2.2.2.1, .inl f11, .inl o.2.2.2.2.2.2.1, .inl f13, .inl o.2.2.2.2.2.2.2.1, .inr 15, .inr 1000, .inr 1000, .inl o.2.2.2.2.2.2.2.2.1, .inl o.2.2.2.2.2.2.2.2.2.1, .inl o.2.2.2.2.2.2.2.2.2.2.1, .inl o.2.2.2.2.2.2.2.2.2.2.2.1, .inl f22, .inl o.2.2.2.2.2.2.2.2.2.2.2.2.1, .inl f24, .inl o.2.2.2.2.2.2.2.2.2.2.2.2.2.1, .inl f26, .inl o.2.2.2.2.2.2.2.2.2.2.2.2.2.2.1, .inl o.2.2.2.2.2.2.2.2.2.2.2.2.2.2.2.1, .inl o.2.2.2.2.2.2.2.2.2.2.2.2.2.2.2.2.1, .inl o.2.2.2.2.2.2.2.2.2.2.2.2.2.2.2.2.2.1, .inl o.2.2.2.2.2.2.2.2.2.2.2.2.2.2.2.2.2.2.1] [g0, o.2.2.2.2.2.2.2.2.2.2.2.2.2.2.2.2.2.2.2.1, g2, o.2.2.2.2.2.2.2.2.2.2.2.2.2.2.2.2.2.2.2.2.1, g4, o.2.2.2.2.2.2.2.2.2.2.2.2.2.2.2.2.2.2.2.2.2.1, g6, o.2.2.2.2.2.2.2.2.2.2.2.2.2.2.2.2.2.2.2.2.2.2.1, g8, o.2.2.2.2.2.2.2.2.2.2.2.2.2.2.2.2.2.2.2.2.2.2.2.1, o.2.2.2.2.2.2.2.2.2.2.2.2.2.2.2.2.2.2.2.2.2.2.2.2.1, g11, o.2.2.2.2.2.2.2.2.2.2.2.2.2.2.2.2.2.2.2.2.2.2.2.2.2.1, o.2.2.2.2.2.2.2.2.2.2.2.2.2.2.2.2.2.2.2.2.2.2.2.2.2.2.1, g14, g15, g16, g17, o.2.2.2.2.2.2.2.2.2.2.2.2.2.2.2.2.2.2.2.2.2.2.2.2.2.2.2.1, g19, g20, o.2.2.2.2.2.2.2.2.2.2.2.2.2.2.2.2.2.2.2.2.2.2.2.2.2.2.2.2.1, o.2.2.2.2.2.2.2.2.2.2.2.2.2.2.2.2.2.2.2.2.2.2.2.2.2.2.2.2.2.1, o.2.2.2.2.2.2.2.2.2.2.2.2.2.2.2.2.2.2.2.2.2.2.2.2.2.2.2.2.2.2.1, o.2.2.2.2.2.2.2.2.2.2.2.2.2.2.2.2.2.2.2.2.2.2.2.2.2.2.2.2.2.2.2.1, o.2.2.2.2.2.2.2.2.2.2.2.2.2.2.2.2.2.2.2.2.2.2.2.2.2.2.2.2.2.2.2.2] := zv_meth (K := (z_KF0, z_KC0, z_KL0, z_KT0, [], [], [], none)) (FT := z_FT) (MT := z_MT) (n := 6) zxp170 (z_ks0 _ (fun _ h => List.mem_cons_of_mem _ h) _ _ _ _ (fun j r h _ => by cases h)) (fun _ _ => zs_KX_p) zyw_X_byTwo (fun va F G h => by obtain ⟨rfl, _⟩ := h; rfl) (fun va F G h => by obtain ⟨rfl, _⟩ := h; rfl) rfl fun good va F G hB hret hvret hP => by
  obtain ⟨rfl, rfl, rfl⟩ := hP
  unfold zf_X_byTwo at h
  refine zv_ald hB zd170_0 rfl rfl rfl ?_
  refine zv_ild hB zd170_1 rfl rfl ?_
  refine zv_ild hB zd170_2 rfl rfl ?_
  refine zv_ild hB zd170_3 rfl rfl ?_
  obtain ⟨r1, hr1, h⟩ := zi_bind h
  refine zv_cv hB (zv_emq (va2 := [.inr 0, .inl x1, .inl x2, .inl x3]) (F := [.inl f0, .inl f1, .inl f2, .inl f3, .inl f4, .inl f5, .inl f6, .inl f7, .inl f8, .inl f9, .inl f10, .inl f11, .inl f12, .inl f13, .inl f14, .inr 15, .inr 1000, .inr 1000, .inl f18, .inl f19, .inl f20, .inl f21, .inl f22, .inl f23, .inl f24, .inl f25, .inl f26, .inl f27, .inl f28, .inl f29, .inl f30, .inl f31]) (F' := [.inl f0, .inl f1, .inl f2, .inl f3, .inl f4, .inl f5, .inl f6, .inl f7, .inl f8, .inl f9, .inl f10, .inl f11, .inl f12, .inl f13, .inl f14, .inr 15, .inr 1000, .inr 1000, .inl f18, .inl f19, .inl f20, .inl f21, .inl f22, .inl f23, .inl f24, .inl f25, .inl f26, .inl f27, .inl f28, .inl f29, .inl f30, .inl f31]) (G := [g0, g1, g2, g3, g4, g5, g6, g7, g8, g9, g10, g11, g12, g13, g14, g15, g16, g17, g18, g19, g20, g21, g22, g23, g24, g25]) (G' := [g0, g1, g2, g3, g4, g5, g6, g7, g8, g9, g10, g11, g12, g13, g14, g15, g16, g17, g18, g19, g20, g21, g22, g23, g24, g25]) (ρ := [0, 1, 2]) (φ := [0, 1]) (ψ := []) [some 0, some 1, none, none, none, none, none, none, none, none, none, none, none, none, none, none, none, none, none, none, none, none, none, none, none, none, none, none, none, none, none, none] [none, none, none, none, none, none, none, none, none, none, none, none, none, none, none, none, none, none, none, none, none, none, none, none, none, none] zyw_X_canAskVoyage zyw_X_byTwo zye_X_byTwo (by decide +kernel) (zt_X_canAskVoyage hr1) ⟨⟨_, rfl, fun _ => rfl⟩, ⟨_, rfl, fun _ => rfl⟩, trivial⟩ trivial rfl rfl rfl rfl rfl rfl rfl) zd170_4 zxt166 rfl (by decide) (by decide) rfl ?_
  refine zv_zeq hB zd170_7 rfl (fun hc2 => ?_) (fun hc2 => ?_)
  · rw [if_pos hc2] at h
    refine zv_con hB zd170_31 rfl ?_
    have hw := Option.some.inj h
    subst hw
    exact hret _ _ _ _ _ zd170_32 (by trivial) ⟨rfl, rfl, rfl⟩
  · rw [if_neg hc2] at h
    refine zv_ild hB zd170_10 rfl rfl ?_
    refine zv_con hB zd170_12 rfl ?_
    refine zv_con hB zd170_13 rfl ?_
    obtain ⟨r3, hr3, h⟩ := zi_bind h
    refine zv_cs hB (zv_emq (va2 := [.inl x4, .inl 2, .inl 12]) (F := [.inl f0, .inl f1, .inl f2, .inl f3, .inl f4, .inl f5, .inl f6, .inl f7, .inl f8, .inl f9, .inl f10, .inl f11, .inl f12, .inl f13, .inl f14, .inr 15, .inr 1000, .inr 1000, .inl f18, .inl f19, .inl f20, .inl f21, .inl f22, .inl f23, .inl f24, .inl f25, .inl f26, .inl f27, .inl f28, .inl f29, .inl f30, .inl f31]) (F' := [.inl f0, .inl f1, .inl f2, .inl f3, .inl f4, .inl f5, .inl f6, .inl f7, .inl f8, .inl f9, .inl f10, .inl f11, .inl f12, .inl f13, .inl f14, .inr 15, .inr 1000, .inr 1000, .inl f18, .inl f19, .inl f20, .inl f21, .inl f22, .inl f23, .inl f24, .inl f25, .inl f26, .inl f27, .inl f28, .inl f29, .inl f30, .inl f31]) (G := [g0, g1, g2, g3, g4, g5, g6, g7, g8, g9, g10, g11, g12, g13, g14, g15, g16, g17, g18, g19, g20, g21, g22, g23, g24, g25]) (G' := [g0, g1, g2, g3, g4, g5, g6, g7, g8, g9, g10, g11, g12, g13, g14, g15, g16, g17, g18, g19, g20, g21, g22, g23, g24, g25]) (ρ := []) (φ := []) (ψ := []) [none, none, none, none, none, none, none, none, none, none, none, none, none, none, none, none, none, none, none, none, none, none, none, none, none, none, none, none, none, none, none, none] [none, none, none, none, none, none, none, none, none, none, none, none, none, none, none, none, none, none, none, none, none, none, none, none, none, none] zyw_X_isWithin zyw_X_byTwo zye_X_byTwo (by decide +kernel) (zt_X_isWithin hr3) trivial trivial rfl rfl rfl rfl rfl rfl rfl) zd170_15 zxt15 rfl (by decide) (by decide) rfl ?_
    refine zv_zeq hB zd170_18 rfl (fun hc4 => ?_) (fun hc4 => ?_)
    · rw [if_pos hc4] at h
      refine zv_con hB zd170_31 rfl ?_
      have hw := Option.some.inj h
      subst hw
      exact hret _ _ _ _ _ zd170_32 (by trivial) ⟨rfl, rfl, rfl⟩
    · rw [if_neg hc4] at h
      refine zv_ild hB zd170_21 rfl rfl ?_
      refine zv_con hB zd170_23 rfl ?_
      refine zv_con hB zd170_24 rfl ?_
      obtain ⟨r5, hr5, h⟩ := zi_bind h
      refine zv_cs hB (zv_emq (va2 := [.inl x5, .inl 0, .inl 3]) (F := [.inl f0, .inl f1, .inl f2, .inl f3, .inl f4, .inl f5, .inl f6, .inl f7, .inl f8, .inl f9, .inl f10, .inl f11, .inl f12, .inl f13, .inl f14, .inr 15, .inr 1000, .inr 1000, .inl f18, .inl f19, .inl f20, .inl f21, .inl f22, .inl f23, .inl f24, .inl f25, .inl f26, .inl f27, .inl f28, .inl f29, .inl f30, .inl f31]) (F' := [.inl f0, .inl f1, .inl f2, .inl f3, .inl f4, .inl f5, .inl f6, .inl f7, .inl f8, .inl f9, .inl f10, .inl f11, .inl f12, .inl f13, .inl f14, .inr 15, .inr 1000, .inr 1000, .inl f18, .inl f19, .inl f20, .inl f21, .inl f22, .inl f23, .inl f24, .inl f25, .inl f26, .inl f27, .inl f28, .inl f29, .inl f30, .inl f31]) (G := [g0, g1, g2, g3, g4, g5, g6, g7, g8, g9, g10, g11, g12, g13, g14, g15, g16, g17, g18, g19, g20, g21, g22, g23, g24, g25]) (G' := [g0, g1, g2, g3, g4, g5, g6, g7, g8, g9, g10, g11, g12, g13, g14, g15, g16, g17, g18, g19, g20, g21, g22, g23, g24, g25]) (ρ := []) (φ := []) (ψ := []) [none, none, none, none, none, none, none, none, none, none, none, none, none, none, none, none, none, none, none, none, none, none, none, none, none, none, none, none, none, none, none, none] [none, none, none, none, none, none, none, none, none, none, none, none, none, none, none, none, none, none, none, none, none, none, none, none, none, none] zyw_X_isWithin zyw_X_byTwo zye_X_byTwo (by decide +kernel) (zt_X_isWithin hr5) trivial trivial rfl rfl rfl rfl rfl rfl rfl) zd170_25 zxt15 rfl (by decide) (by decide) rfl ?_
      refine zv_zne hB zd170_28 rfl (fun hc6 => ?_) (fun hc6 => ?_)
      · rw [if_neg hc6] at h
        refine zv_ald hB zd170_33 rfl rfl rfl ?_
        refine zv_getr hB zd170_34 rfl ?_
        refine zv_ald hB zd170_37 rfl rfl rfl ?_
        refine zv_getr hB zd170_38 rfl ?_
        obtain ⟨r7, hr7, h⟩ := zi_bind h
        refine zv_cv hB (zv_emq (va2 := [.inr 3, .inr 2]) (F := [.inl f0, .inl f1, .inl f2, .inl f3, .inl f4, .inl f5, .inl f6, .inl f7, .inl f8, .inl f9, .inl f10, .inl f11, .inl f12, .inl f13, .inl f14, .inr 15, .inr 1000, .inr 1000, .inl f18, .inl f19, .inl f20, .inl f21, .inl f22, .inl f23, .inl f24, .inl f25, .inl f26, .inl f27, .inl f28, .inl f29, .inl f30, .inl f31]) (F' := [.inl f0, .inl f1, .inl r7.1, .inl f3, .inl r7.2.1, .inl f5, .inl r7.2.2.1, .inl f7, .inl r7.2.2.2.1, .inl f9, .inl r7.2.2.2.2.1, .inl f11, .inl r7.2.2.2.2.2.1, .inl f13, .inl r7.2.2.2.2.2.2.1, .inr 15, .inr 1000, .inr 1000, .inl f18, .inl f19, .inl f20, .inl f21, .inl f22, .inl f23, .inl f24, .inl f25, .inl f26, .inl f27, .inl f28, .inl f29, .inl f30, .inl f31]) (G := [g0, g1, g2, g3, g4, g5, g6, g7, g8, g9, g10, g11, g12, g13, g14, g15, g16, g17, g18, g19, g20, g21, g22, g23, g24, g25]) (G' := [g0, r7.2.2.2.2.2.2.2.1, g2, r7.2.2.2.2.2.2.2.2.1, g4, r7.2.2.2.2.2.2.2.2.2.1, g6, r7.2.2.2.2.2.2.2.2.2.2.1, g8, r7.2.2.2.2.2.2.2.2.2.2.2, g10, g11, g12, g13, g14, g15, g16, g17, g18, g19, g20, g21, g22, g23, g24, g25]) (ρ := [3, 2, 4, 5, 6, 7, 8, 9, 10, 11, 12, 13]) (φ := [1, 2, 3, 4, 5, 6, 7, 8, 9, 10, 11, 12, 13, 14]) (ψ := [0, 1, 2, 3, 4, 5, 6, 7, 8, 9]) [none, some 0, some 1, some 2, some 3, some 4, some 5, some 6, some 7, some 8, some 9, some 10, some 11, some 12, some 13, none, none, none, none, none, none, none, none, none, none, none, none, none, none, none, none, none] [some 0, some 1, some 2, some 3, some 4, some 5, some 6, some 7, some 8, some 9, none, none, none, none, none, none, none, none, none, none, none, none, none, none, none, none] zyw_Sky_copyFrom zyw_X_byTwo zye_X_byTwo (by decide +kernel) (zt_Sky_copyFrom hr7) ⟨⟨_, rfl, fun _ => rfl⟩, ⟨_, rfl, fun _ => rfl⟩, ⟨_, rfl, fun _ => rfl⟩, ⟨_, rfl, fun _ => rfl⟩, ⟨_, rfl, fun _ => rfl⟩, ⟨_, rfl, fun _ => rfl⟩, ⟨_, rfl, fun _ => rfl⟩, ⟨_, rfl, fun _ => rfl⟩, ⟨_, rfl, fun _ => rfl⟩, ⟨_, rfl, fun _ => rfl⟩, ⟨_, rfl, fun _ => rfl⟩, ⟨_, rfl, fun _ => rfl⟩, ⟨_, rfl, fun _ => rfl⟩, ⟨_, rfl, fun _ => rfl⟩, trivial⟩ ⟨rfl, rfl, rfl, rfl, rfl, rfl, rfl, rfl, rfl, rfl, trivial⟩ rfl rfl rfl rfl rfl rfl rfl) zd170_41 zxt125 rfl (by decide) (by decide) rfl ?_
        refine zv_ald hB zd170_44 rfl rfl rfl ?_
        refine zv_getr hB zd170_45 rfl ?_
        refine zv_ald hB zd170_48 rfl rfl rfl ?_
        refine zv_getr hB zd170_49 rfl ?_
        refine zv_ald hB zd170_52 rfl rfl rfl ?_
        refine zv_getq hB zd170_53 rfl rfl rfl ?_
        obtain ⟨r8, hr8, h⟩ := zi_bind h
        refine zv_cv hB (zv_emq (va2 := [.inr 14, .inr 3, .inr 15]) (F := [.inl f0, .inl f1, .inl r7.1, .inl f3, .inl r7.2.1, .inl f5, .inl r7.2.2.1, .inl f7, .inl r7.2.2.2.1, .inl f9, .inl r7.2.2.2.2.1, .inl f11, .inl r7.2.2.2.2.2.1, .inl f13, .inl r7.2.2.2.2.2.2.1, .inr 15, .inr 1000, .inr 1000, .inl f18, .inl f19, .inl f20, .inl f21, .inl f22, .inl f23, .inl f24, .inl f25, .inl f26, .inl f27, .inl f28, .inl f29, .inl f30, .inl f31]) (F' := [.inl f0, .inl f1, .inl r7.1, .inl f3, .inl r7.2.1, .inl f5, .inl r7.2.2.1, .inl f7, .inl r7.2.2.2.1, .inl f9, .inl r7.2.2.2.2.1, .inl f11, .inl r7.2.2.2.2.2.1, .inl f13, .inl r7.2.2.2.2.2.2.1, .inr 15, .inr 3, .inr 15, .inl r8.1, .inl f19, .inl f20, .inl f21, .inl f22, .inl f23, .inl f24, .inl f25, .inl f26, .inl f27, .inl f28, .inl f29, .inl f30, .inl f31]) (G := [g0, r7.2.2.2.2.2.2.2.1, g2, r7.2.2.2.2.2.2.2.2.1, g4, r7.2.2.2.2.2.2.2.2.2.1, g6, r7.2.2.2.2.2.2.2.2.2.2.1, g8, r7.2.2.2.2.2.2.2.2.2.2.2, g10, g11, g12, g13, g14, g15, g16, g17, g18, g19, g20, g21, g22, g23, g24, g25]) (G' := [g0, r7.2.2.2.2.2.2.2.1, g2, r7.2.2.2.2.2.2.2.2.1, g4, r7.2.2.2.2.2.2.2.2.2.1, g6, r7.2.2.2.2.2.2.2.2.2.2.1, g8, r7.2.2.2.2.2.2.2.2.2.2.2, r8.2, g11, g12, g13, g14, g15, g16, g17, g18, g19, g20, g21, g22, g23, g24, g25]) (ρ := [14, 3, 15, 16]) (φ := [16, 17, 18]) (ψ := [10]) [none, none, none, none, none, none, none, none, none, none, none, none, none, none, none, none, some 0, some 1, some 2, none, none, none, none, none, none, none, none, none, none, none, none, none] [none, none, none, none, none, none, none, none, none, none, some 0, none, none, none, none, none, none, none, none, none, none, none, none, none, none, none] zyw_View_open zyw_X_byTwo zye_X_byTwo (by decide +kernel) (zt_View_open hr8) ⟨⟨_, rfl, fun (h : zv_is (.inr 1000)) => (Nat.lt_irrefl 1000 h).elim⟩, ⟨_, rfl, fun (h : zv_is (.inr 1000)) => (Nat.lt_irrefl 1000 h).elim⟩, ⟨_, rfl, fun _ => rfl⟩, trivial⟩ ⟨rfl, trivial⟩ rfl rfl rfl rfl rfl rfl rfl) zd170_56 zxt84 rfl (by decide) (by decide) rfl ?_
        refine zv_ald hB zd170_59 rfl rfl rfl ?_
        refine zv_getr hB zd170_60 rfl ?_
        refine zv_ald hB zd170_63 rfl rfl rfl ?_
        refine zv_getr hB zd170_64 rfl ?_
        refine zv_ald hB zd170_67 rfl rfl rfl ?_
        refine zv_getr hB zd170_68 rfl ?_
        refine zv_ald hB zd170_71 rfl rfl rfl ?_
        refine zv_getr hB zd170_72 rfl ?_
        refine zv_ald hB zd170_75 rfl rfl rfl ?_
        refine zv_getr hB zd170_76 rfl ?_
        refine zv_getr hB zd170_79 rfl ?_
        refine zv_ild hB zd170_82 rfl rfl ?_
        obtain ⟨c9, h⟩ := zi_if h
        refine zv_iald hB zd170_83 rfl rfl (zi_ix_ok c9).1 (zi_ix_ok c9).2 (fun _ _ => ?_)
        refine zv_ild hB zd170_84 rfl rfl ?_
        refine zv_ild hB zd170_85 rfl rfl ?_
        obtain ⟨r10, hr10, h⟩ := zi_bind h
        refine zv_cs hB (zv_emq (va2 := [.inl x2, .inl x3]) (F := [.inl f0, .inl f1, .inl r7.1, .inl f3, .inl r7.2.1, .inl f5, .inl r7.2.2.1, .inl f7, .inl r7.2.2.2.1, .inl f9, .inl r7.2.2.2.2.1, .inl f11, .inl r7.2.2.2.2.2.1, .inl f13, .inl r7.2.2.2.2.2.2.1, .inr 15, .inr 3, .inr 15, .inl r8.1, .inl f19, .inl f20, .inl f21, .inl f22, .inl f23, .inl f24, .inl f25, .inl f26, .inl f27, .inl f28, .inl f29, .inl f30, .inl f31]) (F' := [.inl f0, .inl f1, .inl r7.1, .inl f3, .inl r7.2.1, .inl f5, .inl r7.2.2.1, .inl f7, .inl r7.2.2.2.1, .inl f9, .inl r7.2.2.2.2.1, .inl f11, .inl r7.2.2.2.2.2.1, .inl f13, .inl r7.2.2.2.2.2.2.1, .inr 15, .inr 3, .inr 15, .inl r8.1, .inl f19, .inl f20, .inl f21, .inl f22, .inl f23, .inl f24, .inl f25, .inl f26, .inl f27, .inl f28, .inl f29, .inl f30, .inl f31]) (G := [g0, r7.2.2.2.2.2.2.2.1, g2, r7.2.2.2.2.2.2.2.2.1, g4, r7.2.2.2.2.2.2.2.2.2.1, g6, r7.2.2.2.2.2.2.2.2.2.2.1, g8, r7.2.2.2.2.2.2.2.2.2.2.2, r8.2, g11, g12, g13, g14, g15, g16, g17, g18, g19, g20, g21, g22, g23, g24, g25]) (G' := [g0, r7.2.2.2.2.2.2.2.1, g2, r7.2.2.2.2.2.2.2.2.1, g4, r7.2.2.2.2.2.2.2.2.2.1, g6, r7.2.2.2.2.2.2.2.2.2.2.1, g8, r7.2.2.2.2.2.2.2.2.2.2.2, r8.2, g11, g12, g13, g14, g15, g16, g17, g18, g19, g20, g21, g22, g23, g24, g25]) (ρ := []) (φ := []) (ψ := []) [none, none, none, none, none, none, none, none, none, none, none, none, none, none, none, none, none, none, none, none, none, none, none, none, none, none, none, none, none, none, none, none] [none, none, none, none, none, none, none, none, none, none, none, none, none, none, none, none, none, none, none, none, none, none, none, none, none, none] zyw_X_placeOf zyw_X_byTwo zye_X_byTwo (by decide +kernel) (zt_X_placeOf hr10) trivial trivial rfl rfl rfl rfl rfl rfl rfl) zd170_86 zxt24 rfl (by decide) (by decide) rfl ?_
        refine zv_ild hB zd170_89 rfl rfl ?_
        obtain ⟨r11, hr11, h⟩ := zi_bind h
        refine zv_cv hB (zv_emq (va2 := [.inr 17, .inr 14, .inr 1, .inr 2, .inl (g11 x1), .inl r10, .inl x4]) (F := [.inl f0, .inl f1, .inl r7.1, .inl f3, .inl r7.2.1, .inl f5, .inl r7.2.2.1, .inl f7, .inl r7.2.2.2.1, .inl f9, .inl r7.2.2.2.2.1, .inl f11, .inl r7.2.2.2.2.2.1, .inl f13, .inl r7.2.2.2.2.2.2.1, .inr 15, .inr 3, .inr 15, .inl r8.1, .inl f19, .inl f20, .inl f21, .inl f22, .inl f23, .inl f24, .inl f25, .inl f26, .inl f27, .inl f28, .inl f29, .inl f30, .inl f31]) (F' := [.inl f0, .inl f1, .inl r11.2.2.1, .inl f3, .inl r11.2.2.2.2.2.1, .inl f5, .inl r11.2.2.2.2.2.2.1, .inl f7, .inl r11.2.2.2.2.2.2.2.2.2.1, .inl f9, .inl r11.2.2.2.2.2.2.2.1, .inl f11, .inl r11.2.2.2.2.2.2.2.2.1, .inl f13, .inl r11.2.2.2.2.2.2.2.2.2.2.2.2.2.2.1, .inr 15, .inr 3, .inr 15, .inl r11.2.2.2.2.2.2.2.2.2.2.1, .inl r11.2.1, .inl r11.2.2.2.1, .inl r11.2.2.2.2.1, .inl f22, .inl r11.2.2.2.2.2.2.2.2.2.2.2.1, .inl f24, .inl r11.2.2.2.2.2.2.2.2.2.2.2.2.1, .inl f26, .inl r11.2.2.2.2.2.2.2.2.2.2.2.2.2.1, .inl r11.2.2.2.2.2.2.2.2.2.2.2.2.2.2.2.1, .inl r11.2.2.2.2.2.2.2.2.2.2.2.2.2.2.2.2.1, .inl r11.2.2.2.2.2.2.2.2.2.2.2.2.2.2.2.2.2.1, .inl r11.2.2.2.2.2.2.2.2.2.2.2.2.2.2.2.2.2.2.1]) (G := [g0, r7.2.2.2.2.2.2.2.1, g2, r7.2.2.2.2.2.2.2.2.1, g4, r7.2.2.2.2.2.2.2.2.2.1, g6, r7.2.2.2.2.2.2.2.2.2.2.1, g8, r7.2.2.2.2.2.2.2.2.2.2.2, r8.2, g11, g12, g13, g14, g15, g16, g17, g18, g19, g20, g21, g22, g23, g24, g25]) (G' := [g0, r11.2.2.2.2.2.2.2.2.2.2.2.2.2.2.2.2.2.2.2.2.2.1, g2, r11.2.2.2.2.2.2.2.2.2.2.2.2.2.2.2.2.2.2.2.2.2.2.1, g4, r11.2.2.2.2.2.2.2.2.2.2.2.2.2.2.2.2.2.2.2.2.2.2.2.1, g6, r11.2.2.2.2.2.2.2.2.2.2.2.2.2.2.2.2.2.2.2.2.2.2.2.2.2.2.2.2.1, g8, r11.2.2.2.2.2.2.2.2.2.2.2.2.2.2.2.2.2.2.2.2.2.2.2.2.2.2.2.2.2.1, r11.2.2.2.2.2.2.2.2.2.2.2.2.2.2.2.2.2.2.2.2.2.2.2.2.2.2.2.2.2.2.1, g11, r11.2.2.2.2.2.2.2.2.2.2.2.2.2.2.2.2.2.2.2.1, r11.2.2.2.2.2.2.2.2.2.2.2.2.2.2.2.2.2.2.2.2.1, g14, g15, g16, g17, r11.2.2.2.2.2.2.2.2.2.2.2.2.2.2.2.2.2.2.2.2.2.2.2.2.1, g19, g20, r11.2.2.2.2.2.2.2.2.2.2.2.2.2.2.2.2.2.2.2.2.2.2.2.2.2.1, r11.2.2.2.2.2.2.2.2.2.2.2.2.2.2.2.2.2.2.2.2.2.2.2.2.2.2.1, r11.2.2.2.2.2.2.2.2.2.2.2.2.2.2.2.2.2.2.2.2.2.2.2.2.2.2.2.1, r11.2.2.2.2.2.2.2.2.2.2.2.2.2.2.2.2.2.2.2.2.2.2.2.2.2.2.2.2.2.2.2.1, r11.2.2.2.2.2.2.2.2.2.2.2.2.2.2.2.2.2.2.2.2.2.2.2.2.2.2.2.2.2.2.2.2]) (ρ := [17, 14, 1, 2, 19, 3, 15, 20, 5, 7, 9, 21, 22, 23, 24, 25, 26, 27, 28, 29, 30, 11, 13, 16, 4, 6, 8, 10, 12, 31, 32]) (φ := [19, 16, 17, 2, 20, 21, 4, 6, 10, 12, 8, 22, 18, 23, 24, 25, 26, 1, 27, 3, 5, 7, 9, 11, 13, 14, 28, 29, 30, 31]) (ψ := [12, 13, 1, 3, 5, 14, 15, 16, 17, 18, 19, 20, 21, 22, 23, 7, 9, 10, 0, 2, 4, 6, 8, 24, 25]) [none, some 17, some 3, some 19, some 6, some 20, some 7, some 21, some 10, some 22, some 8, some 23, some 9, some 24, some 25, none, some 1, some 2, some 12, some 0, some 4, some 5, some 11, some 13, some 14, some 15, some 16, some 18, some 26, some 27, some 28, some 29] [some 18, some 2, some 19, some 3, some 20, some 4, some 21, some 15, some 22, some 16, some 17, none, some 0, some 1, some 5, some 6, some 7, some 8, some 9, some 10, some 11, some 12, some 13, some 14, some 23, some 24] zyw_Pilot_findByTwo zyw_X_byTwo zye_X_byTwo (by decide +kernel) (zt_Pilot_findByTwo hr11) ⟨⟨_, rfl, fun _ => rfl⟩, ⟨_, rfl, fun _ => rfl⟩, ⟨_, rfl, fun _ => rfl⟩, ⟨_, rfl, fun _ => rfl⟩, ⟨_, rfl, fun _ => rfl⟩, ⟨_, rfl, fun _ => rfl⟩, ⟨_, rfl, fun _ => rfl⟩, ⟨_, rfl, fun _ => rfl⟩, ⟨_, rfl, fun _ => rfl⟩, ⟨_, rfl, fun _ => rfl⟩, ⟨_, rfl, fun _ => rfl⟩, ⟨_, rfl, fun _ => rfl⟩, ⟨_, rfl, fun _ => rfl⟩, ⟨_, rfl, fun _ => rfl⟩, ⟨_, rfl, fun _ => rfl⟩, ⟨_, rfl, fun _ => rfl⟩, ⟨_, rfl, fun _ => rfl⟩, ⟨_, rfl, fun _ => rfl⟩, ⟨_, rfl, fun _ => rfl⟩, ⟨_, rfl, fun _ => rfl⟩, ⟨_, rfl, fun _ => rfl⟩, ⟨_, rfl, fun _ => rfl⟩, ⟨_, rfl, fun _ => rfl⟩, ⟨_, rfl, fun _ => rfl⟩, ⟨_, rfl, fun _ => rfl⟩, ⟨_, rfl, fun _ => rfl⟩, ⟨_, rfl, fun _ => rfl⟩, ⟨_, rfl, fun _ => rfl⟩, ⟨_, rfl, fun _ => rfl⟩, ⟨_, rfl, fun _ => rfl⟩, trivial⟩ ⟨rfl, rfl, rfl, rfl, rfl, rfl, rfl, rfl, rfl, rfl, rfl, rfl, rfl, rfl, rfl, rfl, rfl, rfl, rfl, rfl, rfl, rfl, rfl, rfl, rfl, trivial⟩ rfl rfl rfl rfl rfl rfl rfl) zd170_91 zxt171 rfl (by decide) (by decide) rfl ?_
        refine zv_zne hB zd170_94 rfl (fun hc12 => ?_) (fun hc12 => ?_)
        · rw [if_neg hc12] at h
          refine zv_ild hB zd170_100 rfl rfl ?_
          refine zv_tsw hB zd170_102 rfl ?_
          refine ⟨fun hc13 => ⟨_, rfl, ?_⟩, fun hc13 => ?_⟩
          · replace hc13 : x5 = 0 := hc13
            rw [if_pos hc13] at h
            refine zv_ald hB zd170_128 rfl rfl rfl ?_
            refine zv_getr hB zd170_129 rfl ?_
            refine zv_getf hB zd170_132 rfl rfl (fun _ _ => ?_)
            have hw := Option.some.inj h
            refine zv_wk hB (L' := [.inr 0, .inl x1, .inl x2, .inl x3, .inl x4, .inl x5]) (F' := [.inl f0, .inl f1, .inl r11.2.2.1, .inl f3, .inl r11.2.2.2.2.2.1, .inl f5, .inl r11.2.2.2.2.2.2.1, .inl f7, .inl r11.2.2.2.2.2.2.2.2.2.1, .inl f9, .inl r11.2.2.2.2.2.2.2.1, .inl f11, .inl r11.2.2.2.2.2.2.2.2.1, .inl f13, .inl r11.2.2.2.2.2.2.2.2.2.2.2.2.2.2.1, .inr 15, .inr 1000, .inr 1000, .inl r11.2.2.2.2.2.2.2.2.2.2.1, .inl r11.2.1, .inl r11.2.2.2.1, .inl r11.2.2.2.2.1, .inl f22, .inl r11.2.2.2.2.2.2.2.2.2.2.2.1, .inl f24, .inl r11.2.2.2.2.2.2.2.2.2.2.2.2.1, .inl f26, .inl r11.2.2.2.2.2.2.2.2.2.2.2.2.2.1, .inl r11.2.2.2.2.2.2.2.2.2.2.2.2.2.2.2.1, .inl r11.2.2.2.2.2.2.2.2.2.2.2.2.2.2.2.2.1, .inl r11.2.2.2.2.2.2.2.2.2.2.2.2.2.2.2.2.2.1, .inl r11.2.2.2.2.2.2.2.2.2.2.2.2.2.2.2.2.2.2.1]) ⟨fun _ => rfl, fun _ => rfl, fun _ => rfl, fun _ => rfl, fun _ => rfl, fun _ => rfl, trivial⟩ ⟨fun _ => rfl, fun _ => rfl, fun _ => rfl, fun _ => rfl, fun _ => rfl, fun _ => rfl, fun _ => rfl, fun _ => rfl, fun _ => rfl, fun _ => rfl, fun _ => rfl, fun _ => rfl, fun _ => rfl, fun _ => rfl, fun _ => rfl, fun _ => rfl, fun (h : zv_is (.inr 1000)) => (Nat.lt_irrefl 1000 h).elim, fun (h : zv_is (.inr 1000)) => (Nat.lt_irrefl 1000 h).elim, fun _ => rfl, fun _ => rfl, fun _ => rfl, fun _ => rfl, fun _ => rfl, fun _ => rfl, fun _ => rfl, fun _ => rfl, fun _ => rfl, fun _ => rfl, fun _ => rfl, fun _ => rfl, fun _ => rfl, fun _ => rfl, trivial⟩ ?_
            subst hw
            exact hret _ _ _ _ _ zd170_135 (by trivial) ⟨rfl, rfl, rfl⟩
          replace hc13 : x5 ≠ 0 := hc13
          rw [if_neg hc13] at h
          refine ⟨fun hc14 => ⟨_, rfl, ?_⟩, fun hc14 => ?_⟩
          · replace hc14 : x5 = 1 := hc14
            rw [if_pos hc14] at h
            refine zv_ald hB zd170_136 rfl rfl rfl ?_
            refine zv_getr hB zd170_137 rfl ?_
            refine zv_getf hB zd170_140 rfl rfl (fun _ _ => ?_)
            have hw := Option.some.inj h
            refine zv_wk hB (L' := [.inr 0, .inl x1, .inl x2, .inl x3, .inl x4, .inl x5]) (F' := [.inl f0, .inl f1, .inl r11.2.2.1, .inl f3, .inl r11.2.2.2.2.2.1, .inl f5, .inl r11.2.2.2.2.2.2.1, .inl f7, .inl r11.2.2.2.2.2.2.2.2.2.1, .inl f9, .inl r11.2.2.2.2.2.2.2.1, .inl f11, .inl r11.2.2.2.2.2.2.2.2.1, .inl f13, .inl r11.2.2.2.2.2.2.2.2.2.2.2.2.2.2.1, .inr 15, .inr 1000, .inr 1000, .inl r11.2.2.2.2.2.2.2.2.2.2.1, .inl r11.2.1, .inl r11.2.2.2.1, .inl r11.2.2.2.2.1, .inl f22, .inl r11.2.2.2.2.2.2.2.2.2.2.2.1, .inl f24, .inl r11.2.2.2.2.2.2.2.2.2.2.2.2.1, .inl f26, .inl r11.2.2.2.2.2.2.2.2.2.2.2.2.2.1, .inl r11.2.2.2.2.2.2.2.2.2.2.2.2.2.2.2.1, .inl r11.2.2.2.2.2.2.2.2.2.2.2.2.2.2.2.2.1, .inl r11.2.2.2.2.2.2.2.2.2.2.2.2.2.2.2.2.2.1, .inl r11.2.2.2.2.2.2.2.2.2.2.2.2.2.2.2.2.2.2.1]) ⟨fun _ => rfl, fun _ => rfl, fun _ => rfl, fun _ => rfl, fun _ => rfl, fun _ => rfl, trivial⟩ ⟨fun _ => rfl, fun _ => rfl, fun _ => rfl, fun _ => rfl, fun _ => rfl, fun _ => rfl, fun _ => rfl, fun _ => rfl, fun _ => rfl, fun _ => rfl, fun _ => rfl, fun _ => rfl, fun _ => rfl, fun _ => rfl, fun _ => rfl, fun _ => rfl, fun (h : zv_is (.inr 1000)) => (Nat.lt_irrefl 1000 h).elim, fun (h : zv_is (.inr 1000)) => (Nat.lt_irrefl 1000 h).elim, fun _ => rfl, fun _ => rfl, fun _ => rfl, fun _ => rfl, fun _ => rfl, fun _ => rfl, fun _ => rfl, fun _ => rfl, fun _ => rfl, fun _ => rfl, fun _ => rfl, fun _ => rfl, fun _ => rfl, fun _ => rfl, trivial⟩ ?_
            subst hw
            exact hret _ _ _ _ _ zd170_143 (by trivial) ⟨rfl, rfl, rfl⟩
          replace hc14 : x5 ≠ 1 := hc14
          rw [if_neg hc14] at h
          refine ⟨fun hc15 => ⟨_, rfl, ?_⟩, fun hc15 => ?_⟩
          · replace hc15 : x5 = 2 := hc15
            rw [if_pos hc15] at h
            refine zv_ald hB zd170_144 rfl rfl rfl ?_
            refine zv_getr hB zd170_145 rfl ?_
            refine zv_getf hB zd170_148 rfl rfl (fun _ _ => ?_)
            have hw := Option.some.inj h
            refine zv_wk hB (L' := [.inr 0, .inl x1, .inl x2, .inl x3, .inl x4, .inl x5]) (F' := [.inl f0, .inl f1, .inl r11.2.2.1, .inl f3, .inl r11.2.2.2.2.2.1, .inl f5, .inl r11.2.2.2.2.2.2.1, .inl f7, .inl r11.2.2.2.2.2.2.2.2.2.1, .inl f9, .inl r11.2.2.2.2.2.2.2.1, .inl f11, .inl r11.2.2.2.2.2.2.2.2.1, .inl f13, .inl r11.2.2.2.2.2.2.2.2.2.2.2.2.2.2.1, .inr 15, .inr 1000, .inr 1000, .inl r11.2.2.2.2.2.2.2.2.2.2.1, .inl r11.2.1, .inl r11.2.2.2.1, .inl r11.2.2.2.2.1, .inl f22, .inl r11.2.2.2.2.2.2.2.2.2.2.2.1, .inl f24, .inl r11.2.2.2.2.2.2.2.2.2.2.2.2.1, .inl f26, .inl r11.2.2.2.2.2.2.2.2.2.2.2.2.2.1, .inl r11.2.2.2.2.2.2.2.2.2.2.2.2.2.2.2.1, .inl r11.2.2.2.2.2.2.2.2.2.2.2.2.2.2.2.2.1, .inl r11.2.2.2.2.2.2.2.2.2.2.2.2.2.2.2.2.2.1, .inl r11.2.2.2.2.2.2.2.2.2.2.2.2.2.2.2.2.2.2.1]) ⟨fun _ => rfl, fun _ => rfl, fun _ => rfl, fun _ => rfl, fun _ => rfl, fun _ => rfl, trivial⟩ ⟨fun _ => rfl, fun _ => rfl, fun _ => rfl, fun _ => rfl, fun _ => rfl, fun _ => rfl, fun _ => rfl, fun _ => rfl, fun _ => rfl, fun _ => rfl, fun _ => rfl, fun _ => rfl, fun _ => rfl, fun _ => rfl, fun _ => rfl, fun _ => rfl, fun (h : zv_is (.inr 1000)) => (Nat.lt_irrefl 1000 h).elim, fun (h : zv_is (.inr 1000)) => (Nat.lt_irrefl 1000 h).elim, fun _ => rfl, fun _ => rfl, fun _ => rfl, fun _ => rfl, fun _ => rfl, fun _ => rfl, fun _ => rfl, fun _ => rfl, fun _ => rfl, fun _ => rfl, fun _ => rfl, fun _ => rfl, fun _ => rfl, fun _ => rfl, trivial⟩ ?_
            subst hw
            exact hret _ _ _ _ _ zd170_151 (by trivial) ⟨rfl, rfl, rfl⟩
          replace hc15 : x5 ≠ 2 := hc15
          rw [if_neg hc15] at h
          refine ⟨_, rfl, ?_⟩
          refine zv_ald hB zd170_152 rfl rfl rfl ?_
          refine zv_getr hB zd170_153 rfl ?_
          refine zv_getf hB zd170_156 rfl rfl (fun _ _ => ?_)
          have hw := Option.some.inj h
          refine zv_wk hB (L' := [.inr 0, .inl x1, .inl x2, .inl x3, .inl x4, .inl x5]) (F' := [.inl f0, .inl f1, .inl r11.2.2.1, .inl f3, .inl r11.2.2.2.2.2.1, .inl f5, .inl r11.2.2.2.2.2.2.1, .inl f7, .inl r11.2.2.2.2.2.2.2.2.2.1, .inl f9, .inl r11.2.2.2.2.2.2.2.1, .inl f11, .inl r11.2.2.2.2.2.2.2.2.1, .inl f13, .inl r11.2.2.2.2.2.2.2.2.2.2.2.2.2.2.1, .inr 15, .inr 1000, .inr 1000, .inl r11.2.2.2.2.2.2.2.2.2.2.1, .inl r11.2.1, .inl r11.2.2.2.1, .inl r11.2.2.2.2.1, .inl f22, .inl r11.2.2.2.2.2.2.2.2.2.2.2.1, .inl f24, .inl r11.2.2.2.2.2.2.2.2.2.2.2.2.1, .inl f26, .inl r11.2.2.2.2.2.2.2.2.2.2.2.2.2.1, .inl r11.2.2.2.2.2.2.2.2.2.2.2.2.2.2.2.1, .inl r11.2.2.2.2.2.2.2.2.2.2.2.2.2.2.2.2.1, .inl r11.2.2.2.2.2.2.2.2.2.2.2.2.2.2.2.2.2.1, .inl r11.2.2.2.2.2.2.2.2.2.2.2.2.2.2.2.2.2.2.1]) ⟨fun _ => rfl, fun _ => rfl, fun _ => rfl, fun _ => rfl, fun _ => rfl, fun _ => rfl, trivial⟩ ⟨fun _ => rfl, fun _ => rfl, fun _ => rfl, fun _ => rfl, fun _ => rfl, fun _ => rfl, fun _ => rfl, fun _ => rfl, fun _ => rfl, fun _ => rfl, fun _ => rfl, fun _ => rfl, fun _ => rfl, fun _ => rfl, fun _ => rfl, fun _ => rfl, fun (h : zv_is (.inr 1000)) => (Nat.lt_irrefl 1000 h).elim, fun (h : zv_is (.inr 1000)) => (Nat.lt_irrefl 1000 h).elim, fun _ => rfl, fun _ => rfl, fun _ => rfl, fun _ => rfl, fun _ => rfl, fun _ => rfl, fun _ => rfl, fun _ => rfl, fun _ => rfl, fun _ => rfl, fun _ => rfl, fun _ => rfl, fun _ => rfl, fun _ => rfl, trivial⟩ ?_
          subst hw
          exact hret _ _ _ _ _ zd170_159 (by trivial) ⟨rfl, rfl, rfl⟩
        · rw [if_pos hc12] at h
          refine zv_con hB zd170_97 rfl ?_
          have hw := Option.some.inj h
          refine zv_wk hB (L' := [.inr 0, .inl x1, .inl x2, .inl x3, .inl x4, .inl x5]) (F' := [.inl f0, .inl f1, .inl r11.2.2.1, .inl f3, .inl r11.2.2.2.2.2.1, .inl f5, .inl r11.2.2.2.2.2.2.1, .inl f7, .inl r11.2.2.2.2.2.2.2.2.2.1, .inl f9, .inl r11.2.2.2.2.2.2.2.1, .inl f11, .inl r11.2.2.2.2.2.2.2.2.1, .inl f13, .inl r11.2.2.2.2.2.2.2.2.2.2.2.2.2.2.1, .inr 15, .inr 1000, .inr 1000, .inl r11.2.2.2.2.2.2.2.2.2.2.1, .inl r11.2.1, .inl r11.2.2.2.1, .inl r11.2.2.2.2.1, .inl f22, .inl r11.2.2.2.2.2.2.2.2.2.2.2.1, .inl f24, .inl r11.2.2.2.2.2.2.2.2.2.2.2.2.1, .inl f26, .inl r11.2.2.2.2.2.2.2.2.2.2.2.2.2.1, .inl r11.2.2.2.2.2.2.2.2.2.2.2.2.2.2.2.1, .inl r11.2.2.2.2.2.2.2.2.2.2.2.2.2.2.2.2.1, .inl r11.2.2.2.2.2.2.2.2.2.2.2.2.2.2.2.2.2.1, .inl r11.2.2.2.2.2.2.2.2.2.2.2.2.2.2.2.2.2.2.1]) ⟨fun _ => rfl, fun _ => rfl, fun _ => rfl, fun _ => rfl, fun _ => rfl, fun _ => rfl, trivial⟩ ⟨fun _ => rfl, fun _ => rfl, fun _ => rfl, fun _ => rfl, fun _ => rfl, fun _ => rfl, fun _ => rfl, fun _ => rfl, fun _ => rfl, fun _ => rfl, fun _ => rfl, fun _ => rfl, fun _ => rfl, fun _ => rfl, fun _ => rfl, fun _ => rfl, fun (h : zv_is (.inr 1000)) => (Nat.lt_irrefl 1000 h).elim, fun (h : zv_is (.inr 1000)) => (Nat.lt_irrefl 1000 h).elim, fun _ => rfl, fun _ => rfl, fun _ => rfl, fun _ => rfl, fun _ => rfl, fun _ => rfl, fun _ => rfl, fun _ => rfl, fun _ => rfl, fun _ => rfl, fun _ => rfl, fun _ => rfl, fun _ => rfl, fun _ => rfl, trivial⟩ ?_
          subst hw
          exact hret _ _ _ _ _ zd170_99 (by trivial) ⟨rfl, rfl, rfl⟩
      · rw [if_pos hc6] at h
        refine zv_con hB zd170_31 rfl ?_
        have hw := Option.some.inj h
        subst hw
        exact hret _ _ _ _ _ zd170_32 (by trivial) ⟨rfl, rfl, rfl⟩
/-! View_keepShared (LStarTales$View;)V -/
-- names: 0 View('arg', 0), 1 View('arg', 1), 2 (0, 24)(0, 7, 5), 3 (0, 24)(1, 7, 5)
-- fields: f0 = 0.shown_, f1 = 1.shown_; arrays: g0 = 2, g1 = 3; out: [('f', 0), ('g', 0)]
abbrev zy_View_keepShared : zNL := (4, [(0, 7), (1, 7)], [(0, 7, 4, 0), (1, 7, 4, 1)], [(0, 7, 5, 2), (1, 7, 5, 3)], [(2, 0, 24, 0), (3, 0, 24, 1)])
theorem zyw_View_keepShared : zv_wf zy_View_keepShared = true := by decide +kernel
theorem zye_View_keepShared : zv_ek2 zy_View_keepShared = true := by decide +kernel
def zf_View_keepShared_l0_b (g1 : (Int → Int)) (rec : Int → (Int → Int) → Option ((Int → Int))) (x2 : Int) (g0 : (Int → Int)) : Option ((Int → Int)) := if x2 < 24 then (cond (zi_ix x2 24) (rec (zi_w (x2 + 1)) (zv_up g0 x2 (zi_and (g0 x2) (g1 x2)))) none) else (some g0)
def zf_View_keepShared_l0 (g1 : (Int → Int)) : Nat → Int → (Int → Int) → Option ((Int → Int))
  | 0, _, _ => none
  | n + 1, x2, g0 => zf_View_keepShared_l0_b g1 (zf_View_keepShared_l0 g1 n) x2 g0
def zf_View_keepShared (f0 : Int) (f1 : Int) (g0 : (Int → Int)) (g1 : (Int → Int)) : Option (Int × (Int → Int)) := (zf_View_keepShared_l0 g1 zi_fu 0 g0).bind fun q3 => (some ((zi_and f0 f1), q3))
theorem zd176_0 : decode zxm176.2.1 0 = .ok (.aload_n 0, 1) := by decide +kernel
theorem zd176_1 : decode zxm176.2.1 1 = .ok (.dup, 1) := by decide +kernel
theorem zd176_2 : decode zxm176.2.1 2 = .ok (.getfield 18, 3) := by decide +kernel
theorem zd176_5 : decode zxm176.2.1 5 = .ok (.aload_n 1, 1) := by decide +kernel
theorem zd176_6 : decode zxm176.2.1 6 = .ok (.getfield 18, 3) := by decide +kernel
theorem zd176_9 : decode zxm176.2.1 9 = .ok (.iand, 1) := by decide +kernel
theorem zd176_10 : decode zxm176.2.1 10 = .ok (.putfield 18, 3) := by decide +kernel
theorem zd176_13 : decode zxm176.2.1 13 = .ok (.iconst 0, 1) := by decide +kernel
theorem zd176_14 : decode zxm176.2.1 14 = .ok (.istore_n 2, 1) := by decide +kernel
theorem zd176_15 : decode zxm176.2.1 15 = .ok (.iload_n 2, 1) := by decide +kernel
theorem zd176_16 : decode zxm176.2.1 16 = .ok (.bipush 24, 2) := by decide +kernel
theorem zd176_18 : decode zxm176.2.1 18 = .ok (.if_icmp .ge 24, 3) := by decide +kernel
theorem zd176_21 : decode zxm176.2.1 21 = .ok (.aload_n 0, 1) := by decide +kernel
theorem zd176_22 : decode zxm176.2.1 22 = .ok (.getfield 21, 3) := by decide +kernel
theorem zd176_25 : decode zxm176.2.1 25 = .ok (.iload_n 2, 1) := by decide +kernel
theorem zd176_26 : decode zxm176.2.1 26 = .ok (.dup2, 1) := by decide +kernel
theorem zd176_27 : decode zxm176.2.1 27 = .ok (.iaload, 1) := by decide +kernel
theorem zd176_28 : decode zxm176.2.1 28 = .ok (.aload_n 1, 1) := by decide +kernel
theorem zd176_29 : decode zxm176.2.1 29 = .ok (.getfield 21, 3) := by decide +kernel
theorem zd176_32 : decode zxm176.2.1 32 = .ok (.iload_n 2, 1) := by decide +kernel
theorem zd176_33 : decode zxm176.2.1 33 = .ok (.iaload, 1) := by decide +kernel
theorem zd176_34 : decode zxm176.2.1 34 = .ok (.iand, 1) := by decide +kernel
theorem zd176_35 : decode zxm176.2.1 35 = .ok (.iastore, 1) := by decide +kernel
theorem zd176_36 : decode zxm176.2.1 36 = .ok (.iinc 2 1, 3) := by decide +kernel
theorem zd176_39 : decode zxm176.2.1 39 = .ok (.goto (-24), 3) := by decide +kernel
theorem zd176_42 : decode zxm176.2.1 42 = .ok (.return_, 1) := by decide +kernel
theorem zt_View_keepShared {f0 : Int} {f1 : Int} {g0 : (Int → Int)} {g1 : (Int → Int)} {o : Int × (Int → Int)} (h : zf_View_keepShared f0 f1 g0 g1 = some o) : zv_Fn z_TB z_cl z_KX zy_View_keepShared zxm176 (0, 0) [.inr 0, .inr 1] [.inl f0, .inl f1] [g0, g1] none [.inl o.1, .inl f1] [o.2, g1] := zv_meth (K := (z_KF11, z_KC11, z_KL11, z_KT11, [], [], [], none)) (FT := z_FT) (MT := z_MT) (n := 2) zxp176 (z_ks11 _ (fun _ h => List.mem_cons_of_mem _ h) _ _ _ _ (fun j r h _ => by cases h)) (fun _ _ => zs_KX_p) zyw_View_keepShared (fun va F G h => by obtain ⟨rfl, _⟩ := h; rfl) (fun va F G h => by obtain ⟨rfl, _⟩ := h; rfl) rfl fun good va F G hB hret hvret hP => by
  obtain ⟨rfl, rfl, rfl⟩ := hP
  have l0 : ∀ (n : Nat) (x2 : Int) (f0 : Int) (g0 : (Int → Int)) (q : (Int → Int)), zf_View_keepShared_l0 g1 n x2 g0 = some q → (good 42 [.inr 1000, .inr 1000, .inr 1000] [] [.inl f0, .inl f1] [q, g1]) → good 15 [.inr 0, .inr 1, .inl x2] [] [.inl f0, .inl f1] [g0, g1] := by
    intro n
    induction n with
    | zero => intro x2 f0 g0 q h; exact absurd (show none = some q from h) (fun h => by cases h)
    | succ n ih =>
      intro x2 f0 g0 q h hK
      replace h : zf_View_keepShared_l0_b g1 (zf_View_keepShared_l0 g1 n) x2 g0 = some q := h
      unfold zf_View_keepShared_l0_b at h
      refine zv_ild hB zd176_15 rfl rfl ?_
      refine zv_con hB zd176_16 rfl ?_
      refine zv_cge hB zd176_18 rfl (fun hc1 => ?_) (fun hc1 => ?_)
      · rw [if_neg (Int.not_lt.mpr hc1)] at h
        have hq := Option.some.inj h
        subst hq
        refine zv_wk hB (L' := [.inr 1000, .inr 1000, .inr 1000]) (F' := [.inl f0, .inl f1]) ⟨fun (h : zv_is (.inr 1000)) => (Nat.lt_irrefl 1000 h).elim, fun (h : zv_is (.inr 1000)) => (Nat.lt_irrefl 1000 h).elim, fun (h : zv_is (.inr 1000)) => (Nat.lt_irrefl 1000 h).elim, trivial⟩ ⟨fun _ => rfl, fun _ => rfl, trivial⟩ ?_
        exact hK
      · rw [if_pos hc1] at h
        refine zv_ald hB zd176_21 rfl rfl rfl ?_
        refine zv_getr hB zd176_22 rfl ?_
        refine zv_ild hB zd176_25 rfl rfl ?_
        refine zv_dup2 hB zd176_26 rfl rfl ?_
        obtain ⟨c2, h⟩ := zi_if h
        refine zv_iald hB zd176_27 rfl rfl (zi_ix_ok c2).1 (zi_ix_ok c2).2 (fun _ _ => ?_)
        refine zv_ald hB zd176_28 rfl rfl rfl ?_
        refine zv_getr hB zd176_29 rfl ?_
        refine zv_ild hB zd176_32 rfl rfl ?_
        refine zv_iald hB zd176_33 rfl rfl (zi_ix_ok c2).1 (zi_ix_ok c2).2 (fun _ _ => ?_)
        refine zv_andw hB zd176_34 ?_
        refine zv_iast hB zd176_35 rfl rfl (zi_ix_ok c2).1 (zi_ix_ok c2).2 ?_
        refine zv_iincw hB zd176_36 rfl rfl ?_
        refine zv_goto hB zd176_39 rfl ?_
        exact ih _ _ _ q h hK
  unfold zf_View_keepShared at h
  refine zv_ald hB zd176_0 rfl rfl rfl ?_
  refine zv_dup hB zd176_1 rfl ?_
  refine zv_getf hB zd176_2 rfl rfl (fun _ _ => ?_)
  refine zv_ald hB zd176_5 rfl rfl rfl ?_
  refine zv_getf hB zd176_6 rfl rfl (fun _ _ => ?_)
  refine zv_andw hB zd176_9 ?_
  refine zv_putf hB zd176_10 rfl rfl (fun h => by cases h) rfl ?_
  refine zv_con hB zd176_13 rfl ?_
  refine zv_ist hB zd176_14 rfl rfl rfl ?_
  obtain ⟨q3, hq3, h⟩ := zi_bind h
  refine l0 _ _ _ _ q3 hq3 ?_
  show good 42 [.inr 1000, .inr 1000, .inr 1000] [] [.inl (zi_and f0 f1), .inl f1] [q3, g1]
  have hw := Option.some.inj h
  subst hw
  exact hvret _ _ _ _ zd176_42 trivial ⟨rfl, rfl, rfl⟩
