/-! 61l.dec, 61m.dec, 61n.dec, 61o.dec -/
section
/-! Methods as functions, and that they do what these do. -/
/-! X_byTwo (IIIII)I -/
-- names: 0 StarTales('arg', 0), 1 Sea(0, 0, 3), 2 Sky(0, 0, 0), 3 Sky(0, 0, 2), 4 (0, 24)(2, 1, 1), 5 (0, 24)(3, 1, 1), 6 (0, 24)(2, 1, 2), 7 (0, 24)(3, 1, 2), 8 (0, 24)(2, 1, 3), 9 (0, 24)(3, 1, 3), 10 (0, 24)(2, 1, 4), 11 (0, 24)(3, 1, 4), 12 (0, 24)(2, 1, 5), 13 (0, 24)(3, 1, 5), 14 View(0, 0, 12), 15 Law(0, 0, 7), 16 (0, 24)(14, 7, 8), 17 Pilot(0, 0, 15), 18 (0, 6)(1, 2, 2), 19 (0, 24)(17, 9, 4), 20 (0, 13)(15, 4, 12), 21 (0, 14)(15, 4, 3), 22 (0, 14)(15, 4, 5), 23 (0, 14)(15, 4, 6), 24 (0, 200)(15, 4, 0), 25 (0, 40)(15, 4, 13), 26 (0, 200)(15, 4, 1), 27 (0, 12)(1, 2, 0), 28 (0, 264)(17, 9, 5), 29 (0, 264)(17, 9, 6), 30 (0, 264)(17, 9, 7), 31 (0, 288)(17, 9, 11), 32 (0, 264)(17, 9, 8)
-- fields: f0 = 1.shipsTold_, f1 = 2.told_, f2 = 3.told_, f3 = 2.hour_, f4 = 3.hour_, f5 = 2.night_, f6 = 3.night_, f7 = 2.clouds_, f8 = 3.clouds_, f9 = 2.sightColumns_, f10 = 3.sightColumns_, f11 = 2.sightRows_, f12 = 3.sightRows_, f13 = 2.chance_, f14 = 3.chance_, f15 = 0.ruling_, f16 = 14.sky_, f17 = 14.law_, f18 = 14.starsAsked_, f19 = 17.legs_, f20 = 14.x_, f21 = 14.y_, f22 = 15.tellsSeen_, f23 = 14.starsHold_, f24 = 15.clauses_, f25 = 15.answer_, f26 = 15.seenByPlace_, f27 = 17.best_, f28 = 17.hoursTaken_, f29 = 17.firstStar_, f30 = 17.turn_, f31 = 17.secondStar_; arrays: g0 = 4, g1 = 5, g2 = 6, g3 = 7, g4 = 8, g5 = 9, g6 = 10, g7 = 11, g8 = 12, g9 = 13, g10 = 16, g11 = 18, g12 = 19, g13 = 20, g14 = 21, g15 = 22, g16 = 23, g17 = 24, g18 = 25, g19 = 26, g20 = 27, g21 = 28, g22 = 29, g23 = 30, g24 = 31, g25 = 32; out: [('ret', None), ('f', 2), ('f', 4), ('f', 6), ('f', 8), ('f', 10), ('f', 12), ('f', 14), ('f', 18), ('f', 19), ('f', 20), ('f', 21), ('f', 23), ('f', 25), ('f', 27), ('f', 28), ('f', 29), ('f', 30), ('f', 31), ('g', 1), ('g', 3), ('g', 5), ('g', 7), ('g', 9), ('g', 10), ('g', 12), ('g', 13), ('g', 18), ('g', 21), ('g', 22), ('g', 23), ('g', 24), ('g', 25)]
abbrev zy_X_byTwo : zNL := (33, [(0, 0), (1, 2), (2, 1), (3, 1), (14, 7), (15, 4), (17, 9)], [(1, 2, 1, 0), (2, 1, 0, 1), (3, 1, 0, 2), (2, 1, 6, 3), (3, 1, 6, 4), (2, 1, 7, 5), (3, 1, 7, 6), (2, 1, 8, 7), (3, 1, 8, 8), (2, 1, 9, 9), (3, 1, 9, 10), (2, 1, 10, 11), (3, 1, 10, 12), (2, 1, 11, 13), (3, 1, 11, 14), (0, 0, 7, 15), (14, 7, 0, 16), (14, 7, 1, 17), (14, 7, 6, 18), (17, 9, 9, 19), (14, 7, 2, 20), (14, 7, 3, 21), (15, 4, 8, 22), (14, 7, 7, 23), (15, 4, 7, 24), (15, 4, 14, 25), (15, 4, 10, 26), (17, 9, 10, 27), (17, 9, 0, 28), (17, 9, 1, 29), (17, 9, 2, 30), (17, 9, 3, 31)], [(0, 0, 3, 1), (0, 0, 0, 2), (0, 0, 2, 3), (2, 1, 1, 4), (3, 1, 1, 5), (2, 1, 2, 6), (3, 1, 2, 7), (2, 1, 3, 8), (3, 1, 3, 9), (2, 1, 4, 10), (3, 1, 4, 11), (2, 1, 5, 12), (3, 1, 5, 13), (0, 0, 12, 14), (14, 7, 8, 16), (0, 0, 15, 17), (1, 2, 2, 18), (17, 9, 4, 19), (15, 4, 12, 20), (15, 4, 3, 21), (15, 4, 5, 22), (15, 4, 6, 23), (15, 4, 0, 24), (15, 4, 13, 25), (15, 4, 1, 26), (1, 2, 0, 27), (17, 9, 5, 28), (17, 9, 6, 29), (17, 9, 7, 30), (17, 9, 11, 31), (17, 9, 8, 32)], [(4, 0, 24, 0), (5, 0, 24, 1), (6, 0, 24, 2), (7, 0, 24, 3), (8, 0, 24, 4), (9, 0, 24, 5), (10, 0, 24, 6), (11, 0, 24, 7), (12, 0, 24, 8), (13, 0, 24, 9), (16, 0, 24, 10), (18, 0, 6, 11), (19, 0, 24, 12), (20, 0, 13, 13), (21, 0, 14, 14), (22, 0, 14, 15), (23, 0, 14, 16), (24, 0, 200, 17), (25, 0, 40, 18), (26, 0, 200, 19), (27, 0, 12, 20), (28, 0, 264, 21), (29, 0, 264, 22), (30, 0, 264, 23), (31, 0, 288, 24), (32, 0, 264, 25)])
theorem zyw_X_byTwo : zv_wf zy_X_byTwo = true := by decide +kernel
theorem zye_X_byTwo : zv_ek2 zy_X_byTwo = true := by decide +kernel
def zf_X_byTwo (x1 : Int) (x2 : Int) (x3 : Int) (x4 : Int) (x5 : Int) (f0 : Int) (f1 : Int) (f2 : Int) (f3 : Int) (f4 : Int) (f5 : Int) (f6 : Int) (f7 : Int) (f8 : Int) (f9 : Int) (f10 : Int) (f11 : Int) (f12 : Int) (f13 : Int) (f14 : Int) (f18 : Int) (f19 : Int) (f20 : Int) (f21 : Int) (f22 : Int) (f23 : Int) (f24 : Int) (f25 : Int) (f26 : Int) (f27 : Int) (f28 : Int) (f29 : Int) (f30 : Int) (f31 : Int) (g0 : (Int → Int)) (g1 : (Int → Int)) (g2 : (Int → Int)) (g3 : (Int → Int)) (g4 : (Int → Int)) (g5 : (Int → Int)) (g6 : (Int → Int)) (g7 : (Int → Int)) (g8 : (Int → Int)) (g9 : (Int → Int)) (g10 : (Int → Int)) (g11 : (Int → Int)) (g12 : (Int → Int)) (g13 : (Int → Int)) (g14 : (Int → Int)) (g15 : (Int → Int)) (g16 : (Int → Int)) (g17 : (Int → Int)) (g18 : (Int → Int)) (g19 : (Int → Int)) (g20 : (Int → Int)) (g21 : (Int → Int)) (g22 : (Int → Int)) (g23 : (Int → Int)) (g24 : (Int → Int)) (g25 : (Int → Int)) : Option (Int × Int × Int × Int × Int × Int × Int × Int × Int × Int × Int × Int × Int × Int × Int × Int × Int × Int × Int × (Int → Int) × (Int → Int) × (Int → Int) × (Int → Int) × (Int → Int) × (Int → Int) × (Int → Int) × (Int → Int) × (Int → Int) × (Int → Int) × (Int → Int) × (Int → Int) × (Int → Int) × (Int → Int)) := (zf_X_canAskVoyage x1 x2 x3 f0 f1).bind fun r1 => (if r1 = 0 then (some ((-1), f2, f4, f6, f8, f10, f12, f14, f18, f19, f20, f21, f23, f25, f27, f28, f29, f30, f31, g1, g3, g5, g7, g9, g10, g12, g13, g18, g21, g22, g23, g24, g25)) else ((zf_X_isWithin x4 2 12).bind fun r3 => (if r3 = 0 then (some ((-1), f2, f4, f6, f8, f10, f12, f14, f18, f19, f20, f21, f23, f25, f27, f28, f29, f30, f31, g1, g3, g5, g7, g9, g10, g12, g13, g18, g21, g22, g23, g24, g25)) else ((zf_X_isWithin x5 0 3).bind fun r5 => (if r5 = 0 then (some ((-1), f2, f4, f6, f8, f10, f12, f14, f18, f19, f20, f21, f23, f25, f27, f28, f29, f30, f31, g1, g3, g5, g7, g9, g10, g12, g13, g18, g21, g22, g23, g24, g25)) else ((zf_Sky_copyFrom f1 f2 f3 f4 f5 f6 f7 f8 f9 f10 f11 f12 f13 f14 g0 g1 g2 g3 g4 g5 g6 g7 g8 g9).bind fun r7 => ((zf_View_open f18 g10).bind fun r8 => (cond (zi_ix x1 6) ((zf_X_placeOf x2 x3).bind fun r10 => ((zf_Pilot_findByTwo (g11 x1) r10 x4 f19 r7.1 f20 f21 r7.2.1 r7.2.2.1 r7.2.2.2.2.1 r7.2.2.2.2.2.1 r7.2.2.2.1 f22 r8.1 f23 f24 f25 f26 f1 f27 f3 f5 f7 f9 f11 f13 r7.2.2.2.2.2.2.1 f28 f29 f30 f31 g12 g13 r7.2.2.2.2.2.2.2.1 r7.2.2.2.2.2.2.2.2.1 r7.2.2.2.2.2.2.2.2.2.1 g14 g15 g16 g17 g18 g19 g20 g21 g22 g23 r7.2.2.2.2.2.2.2.2.2.2.1 r7.2.2.2.2.2.2.2.2.2.2.2 r8.2 g0 g2 g4 g6 g8 g24 g25).bind fun r11 => (if r11.1 = 0 then (some ((-2), r11.2.2.1, r11.2.2.2.2.2.1, r11.2.2.2.2.2.2.1, r11.2.2.2.2.2.2.2.2.2.1, r11.2.2.2.2.2.2.2.1, r11.2.2.2.2.2.2.2.2.1, r11.2.2.2.2.2.2.2.2.2.2.2.2.2.2.1, r11.2.2.2.2.2.2.2.2.2.2.1, r11.2.1, r11.2.2.2.1, r11.2.2.2.2.1, r11.2.2.2.2.2.2.2.2.2.2.2.1, r11.2.2.2.2.2.2.2.2.2.2.2.2.1, r11.2.2.2.2.2.2.2.2.2.2.2.2.2.1, r11.2.2.2.2.2.2.2.2.2.2.2.2.2.2.2.1, r11.2.2.2.2.2.2.2.2.2.2.2.2.2.2.2.2.1, r11.2.2.2.2.2.2.2.2.2.2.2.2.2.2.2.2.2.1, r11.2.2.2.2.2.2.2.2.2.2.2.2.2.2.2.2.2.2.1, r11.2.2.2.2.2.2.2.2.2.2.2.2.2.2.2.2.2.2.2.2.2.1, r11.2.2.2.2.2.2.2.2.2.2.2.2.2.2.2.2.2.2.2.2.2.2.1, r11.2.2.2.2.2.2.2.2.2.2.2.2.2.2.2.2.2.2.2.2.2.2.2.1, r11.2.2.2.2.2.2.2.2.2.2.2.2.2.2.2.2.2.2.2.2.2.2.2.2.2.2.2.2.1, r11.2.2.2.2.2.2.2.2.2.2.2.2.2.2.2.2.2.2.2.2.2.2.2.2.2.2.2.2.2.1, r11.2.2.2.2.2.2.2.2.2.2.2.2.2.2.2.2.2.2.2.2.2.2.2.2.2.2.2.2.2.2.1, r11.2.2.2.2.2.2.2.2.2.2.2.2.2.2.2.2.2.2.2.1, r11.2.2.2.2.2.2.2.2.2.2.2.2.2.2.2.2.2.2.2.2.1, r11.2.2.2.2.2.2.2.2.2.2.2.2.2.2.2.2.2.2.2.2.2.2.2.2.1, r11.2.2.2.2.2.2.2.2.2.2.2.2.2.2.2.2.2.2.2.2.2.2.2.2.2.1, r11.2.2.2.2.2.2.2.2.2.2.2.2.2.2.2.2.2.2.2.2.2.2.2.2.2.2.1, r11.2.2.2.2.2.2.2.2.2.2.2.2.2.2.2.2.2.2.2.2.2.2.2.2.2.2.2.1, r11.2.2.2.2.2.2.2.2.2.2.2.2.2.2.2.2.2.2.2.2.2.2.2.2.2.2.2.2.2.2.2.1, r11.2.2.2.2.2.2.2.2.2.2.2.2.2.2.2.2.2.2.2.2.2.2.2.2.2.2.2.2.2.2.2.2)) else (if x5 = 0 then (some (r11.2.2.2.2.2.2.2.2.2.2.2.2.2.2.2.1, r11.2.2.1, r11.2.2.2.2.2.1, r11.2.2.2.2.2.2.1, r11.2.2.2.2.2.2.2.2.2.1, r11.2.2.2.2.2.2.2.1, r11.2.2.2.2.2.2.2.2.1, r11.2.2.2.2.2.2.2.2.2.2.2.2.2.2.1, r11.2.2.2.2.2.2.2.2.2.2.1, r11.2.1, r11.2.2.2.1, r11.2.2.2.2.1, r11.2.2.2.2.2.2.2.2.2.2.2.1, r11.2.2.2.2.2.2.2.2.2.2.2.2.1, r11.2.2.2.2.2.2.2.2.2.2.2.2.2.1, r11.2.2.2.2.2.2.2.2.2.2.2.2.2.2.2.1, r11.2.2.2.2.2.2.2.2.2.2.2.2.2.2.2.2.1, r11.2.2.2.2.2.2.2.2.2.2.2.2.2.2.2.2.2.1, r11.2.2.2.2.2.2.2.2.2.2.2.2.2.2.2.2.2.2.1, r11.2.2.2.2.2.2.2.2.2.2.2.2.2.2.2.2.2.2.2.2.2.1, r11.2.2.2.2.2.2.2.2.2.2.2.2.2.2.2.2.2.2.2.2.2.2.1, r11.2.2.2.2.2.2.2.2.2.2.2.2.2.2.2.2.2.2.2.2.2.2.2.1, r11.2.2.2.2.2.2.2.2.2.2.2.2.2.2.2.2.2.2.2.2.2.2.2.2.2.2.2.2.1, r11.2.2.2.2.2.2.2.2.2.2.2.2.2.2.2.2.2.2.2.2.2.2.2.2.2.2.2.2.2.1, r11.2.2.2.2.2.2.2.2.2.2.2.2.2.2.2.2.2.2.2.2.2.2.2.2.2.2.2.2.2.2.1, r11.2.2.2.2.2.2.2.2.2.2.2.2.2.2.2.2.2.2.2.1, r11.2.2.2.2.2.2.2.2.2.2.2.2.2.2.2.2.2.2.2.2.1, r11.2.2.2.2.2.2.2.2.2.2.2.2.2.2.2.2.2.2.2.2.2.2.2.2.1, r11.2.2.2.2.2.2.2.2.2.2.2.2.2.2.2.2.2.2.2.2.2.2.2.2.2.1, r11.2.2.2.2.2.2.2.2.2.2.2.2.2.2.2.2.2.2.2.2.2.2.2.2.2.2.1, r11.2.2.2.2.2.2.2.2.2.2.2.2.2.2.2.2.2.2.2.2.2.2.2.2.2.2.2.1, r11.2.2.2.2.2.2.2.2.2.2.2.2.2.2.2.2.2.2.2.2.2.2.2.2.2.2.2.2.2.2.2.1, r11.2.2.2.2.2.2.2.2.2.2.2.2.2.2.2.2.2.2.2.2.2.2.2.2.2.2.2.2.2.2.2.2)) else (if x5 = 1 then (some (r11.2.2.2.2.2.2.2.2.2.2.2.2.2.2.2.2.1, r11.2.2.1, r11.2.2.2.2.2.1, r11.2.2.2.2.2.2.1, r11.2.2.2.2.2.2.2.2.2.1, r11.2.2.2.2.2.2.2.1, r11.2.2.2.2.2.2.2.2.1, r11.2.2.2.2.2.2.2.2.2.2.2.2.2.2.1, r11.2.2.2.2.2.2.2.2.2.2.1, r11.2.1, r11.2.2.2.1, r11.2.2.2.2.1, r11.2.2.2.2.2.2.2.2.2.2.2.1, r11.2.2.2.2.2.2.2.2.2.2.2.2.1, r11.2.2.2.2.2.2.2.2.2.2.2.2.2.1, r11.2.2.2.2.2.2.2.2.2.2.2.2.2.2.2.1, r11.2.2.2.2.2.2.2.2.2.2.2.2.2.2.2.2.1, r11.2.2.2.2.2.2.2.2.2.2.2.2.2.2.2.2.2.1, r11.2.2.2.2.2.2.2.2.2.2.2.2.2.2.2.2.2.2.1, r11.2.2.2.2.2.2.2.2.2.2.2.2.2.2.2.2.2.2.2.2.2.1, r11.2.2.2.2.2.2.2.2.2.2.2.2.2.2.2.2.2.2.2.2.2.2.1, r11.2.2.2.2.2.2.2.2.2.2.2.2.2.2.2.2.2.2.2.2.2.2.2.1, r11.2.2.2.2.2.2.2.2.2.2.2.2.2.2.2.2.2.2.2.2.2.2.2.2.2.2.2.2.1, r11.2.2.2.2.2.2.2.2.2.2.2.2.2.2.2.2.2.2.2.2.2.2.2.2.2.2.2.2.2.1, r11.2.2.2.2.2.2.2.2.2.2.2.2.2.2.2.2.2.2.2.2.2.2.2.2.2.2.2.2.2.2.1, r11.2.2.2.2.2.2.2.2.2.2.2.2.2.2.2.2.2.2.2.1, r11.2.2.2.2.2.2.2.2.2.2.2.2.2.2.2.2.2.2.2.2.1, r11.2.2.2.2.2.2.2.2.2.2.2.2.2.2.2.2.2.2.2.2.2.2.2.2.1, r11.2.2.2.2.2.2.2.2.2.2.2.2.2.2.2.2.2.2.2.2.2.2.2.2.2.1, r11.2.2.2.2.2.2.2.2.2.2.2.2.2.2.2.2.2.2.2.2.2.2.2.2.2.2.1, r11.2.2.2.2.2.2.2.2.2.2.2.2.2.2.2.2.2.2.2.2.2.2.2.2.2.2.2.1, r11.2.2.2.2.2.2.2.2.2.2.2.2.2.2.2.2.2.2.2.2.2.2.2.2.2.2.2.2.2.2.2.1, r11.2.2.2.2.2.2.2.2.2.2.2.2.2.2.2.2.2.2.2.2.2.2.2.2.2.2.2.2.2.2.2.2)) else (if x5 = 2 then (some (r11.2.2.2.2.2.2.2.2.2.2.2.2.2.2.2.2.2.1, r11.2.2.1, r11.2.2.2.2.2.1, r11.2.2.2.2.2.2.1, r11.2.2.2.2.2.2.2.2.2.1, r11.2.2.2.2.2.2.2.1, r11.2.2.2.2.2.2.2.2.1, r11.2.2.2.2.2.2.2.2.2.2.2.2.2.2.1, r11.2.2.2.2.2.2.2.2.2.2.1, r11.2.1, r11.2.2.2.1, r11.2.2.2.2.1, r11.2.2.2.2.2.2.2.2.2.2.2.1, r11.2.2.2.2.2.2.2.2.2.2.2.2.1, r11.2.2.2.2.2.2.2.2.2.2.2.2.2.1, r11.2.2.2.2.2.2.2.2.2.2.2.2.2.2.2.1, r11.2.2.2.2.2.2.2.2.2.2.2.2.2.2.2.2.1, r11.2.2.2.2.2.2.2.2.2.2.2.2.2.2.2.2.2.1, r11.2.2.2.2.2.2.2.2.2.2.2.2.2.2.2.2.2.2.1, r11.2.2.2.2.2.2.2.2.2.2.2.2.2.2.2.2.2.2.2.2.2.1, r11.2.2.2.2.2.2.2.2.2.2.2.2.2.2.2.2.2.2.2.2.2.2.1, r11.2.2.2.2.2.2.2.2.2.2.2.2.2.2.2.2.2.2.2.2.2.2.2.1, r11.2.2.2.2.2.2.2.2.2.2.2.2.2.2.2.2.2.2.2.2.2.2.2.2.2.2.2.2.1, r11.2.2.2.2.2.2.2.2.2.2.2.2.2.2.2.2.2.2.2.2.2.2.2.2.2.2.2.2.2.1, r11.2.2.2.2.2.2.2.2.2.2.2.2.2.2.2.2.2.2.2.2.2.2.2.2.2.2.2.2.2.2.1, r11.2.2.2.2.2.2.2.2.2.2.2.2.2.2.2.2.2.2.2.1, r11.2.2.2.2.2.2.2.2.2.2.2.2.2.2.2.2.2.2.2.2.1, r11.2.2.2.2.2.2.2.2.2.2.2.2.2.2.2.2.2.2.2.2.2.2.2.2.1, r11.2.2.2.2.2.2.2.2.2.2.2.2.2.2.2.2.2.2.2.2.2.2.2.2.2.1, r11.2.2.2.2.2.2.2.2.2.2.2.2.2.2.2.2.2.2.2.2.2.2.2.2.2.2.1, r11.2.2.2.2.2.2.2.2.2.2.2.2.2.2.2.2.2.2.2.2.2.2.2.2.2.2.2.1, r11.2.2.2.2.2.2.2.2.2.2.2.2.2.2.2.2.2.2.2.2.2.2.2.2.2.2.2.2.2.2.2.1, r11.2.2.2.2.2.2.2.2.2.2.2.2.2.2.2.2.2.2.2.2.2.2.2.2.2.2.2.2.2.2.2.2)) else (some (r11.2.2.2.2.2.2.2.2.2.2.2.2.2.2.2.2.2.2.1, r11.2.2.1, r11.2.2.2.2.2.1, r11.2.2.2.2.2.2.1, r11.2.2.2.2.2.2.2.2.2.1, r11.2.2.2.2.2.2.2.1, r11.2.2.2.2.2.2.2.2.1, r11.2.2.2.2.2.2.2.2.2.2.2.2.2.2.1, r11.2.2.2.2.2.2.2.2.2.2.1, r11.2.1, r11.2.2.2.1, r11.2.2.2.2.1, r11.2.2.2.2.2.2.2.2.2.2.2.1, r11.2.2.2.2.2.2.2.2.2.2.2.2.1, r11.2.2.2.2.2.2.2.2.2.2.2.2.2.1, r11.2.2.2.2.2.2.2.2.2.2.2.2.2.2.2.1, r11.2.2.2.2.2.2.2.2.2.2.2.2.2.2.2.2.1, r11.2.2.2.2.2.2.2.2.2.2.2.2.2.2.2.2.2.1, r11.2.2.2.2.2.2.2.2.2.2.2.2.2.2.2.2.2.2.1, r11.2.2.2.2.2.2.2.2.2.2.2.2.2.2.2.2.2.2.2.2.2.1, r11.2.2.2.2.2.2.2.2.2.2.2.2.2.2.2.2.2.2.2.2.2.2.1, r11.2.2.2.2.2.2.2.2.2.2.2.2.2.2.2.2.2.2.2.2.2.2.2.1, r11.2.2.2.2.2.2.2.2.2.2.2.2.2.2.2.2.2.2.2.2.2.2.2.2.2.2.2.2.1, r11.2.2.2.2.2.2.2.2.2.2.2.2.2.2.2.2.2.2.2.2.2.2.2.2.2.2.2.2.2.1, r11.2.2.2.2.2.2.2.2.2.2.2.2.2.2.2.2.2.2.2.2.2.2.2.2.2.2.2.2.2.2.1, r11.2.2.2.2.2.2.2.2.2.2.2.2.2.2.2.2.2.2.2.1, r11.2.2.2.2.2.2.2.2.2.2.2.2.2.2.2.2.2.2.2.2.1, r11.2.2.2.2.2.2.2.2.2.2.2.2.2.2.2.2.2.2.2.2.2.2.2.2.1, r11.2.2.2.2.2.2.2.2.2.2.2.2.2.2.2.2.2.2.2.2.2.2.2.2.2.1, r11.2.2.2.2.2.2.2.2.2.2.2.2.2.2.2.2.2.2.2.2.2.2.2.2.2.2.1, r11.2.2.2.2.2.2.2.2.2.2.2.2.2.2.2.2.2.2.2.2.2.2.2.2.2.2.2.1, r11.2.2.2.2.2.2.2.2.2.2.2.2.2.2.2.2.2.2.2.2.2.2.2.2.2.2.2.2.2.2.2.1, r11.2.2.2.2.2.2.2.2.2.2.2.2.2.2.2.2.2.2.2.2.2.2.2.2.2.2.2.2.2.2.2.2)))))))) none))))))))
theorem zd170_0 : decode zxm170.2.1 0 = .ok (.aload_n 0, 1) := by decide +kernel
theorem zd170_1 : decode zxm170.2.1 1 = .ok (.iload_n 1, 1) := by decide +kernel
theorem zd170_2 : decode zxm170.2.1 2 = .ok (.iload_n 2, 1) := by decide +kernel
theorem zd170_3 : decode zxm170.2.1 3 = .ok (.iload_n 3, 1) := by decide +kernel
theorem zd170_4 : decode zxm170.2.1 4 = .ok (.invokevirtual 353, 3) := by decide +kernel
theorem zd170_7 : decode zxm170.2.1 7 = .ok (.ifCond .eq 24, 3) := by decide +kernel
theorem zd170_10 : decode zxm170.2.1 10 = .ok (.iload 4, 2) := by decide +kernel
theorem zd170_12 : decode zxm170.2.1 12 = .ok (.iconst 2, 1) := by decide +kernel
theorem zd170_13 : decode zxm170.2.1 13 = .ok (.bipush 12, 2) := by decide +kernel
theorem zd170_15 : decode zxm170.2.1 15 = .ok (.invokestatic 126, 3) := by decide +kernel
theorem zd170_18 : decode zxm170.2.1 18 = .ok (.ifCond .eq 13, 3) := by decide +kernel
theorem zd170_21 : decode zxm170.2.1 21 = .ok (.iload 5, 2) := by decide +kernel
theorem zd170_23 : decode zxm170.2.1 23 = .ok (.iconst 0, 1) := by decide +kernel
theorem zd170_24 : decode zxm170.2.1 24 = .ok (.iconst 3, 1) := by decide +kernel
theorem zd170_25 : decode zxm170.2.1 25 = .ok (.invokestatic 126, 3) := by decide +kernel
theorem zd170_28 : decode zxm170.2.1 28 = .ok (.ifCond .ne 5, 3) := by decide +kernel
theorem zd170_31 : decode zxm170.2.1 31 = .ok (.iconst (-1), 1) := by decide +kernel
theorem zd170_32 : decode zxm170.2.1 32 = .ok (.ireturn, 1) := by decide +kernel
theorem zd170_33 : decode zxm170.2.1 33 = .ok (.aload_n 0, 1) := by decide +kernel
theorem zd170_34 : decode zxm170.2.1 34 = .ok (.getfield 19, 3) := by decide +kernel
theorem zd170_37 : decode zxm170.2.1 37 = .ok (.aload_n 0, 1) := by decide +kernel
theorem zd170_38 : decode zxm170.2.1 38 = .ok (.getfield 10, 3) := by decide +kernel
theorem zd170_41 : decode zxm170.2.1 41 = .ok (.invokevirtual 273, 3) := by decide +kernel
theorem zd170_44 : decode zxm170.2.1 44 = .ok (.aload_n 0, 1) := by decide +kernel
theorem zd170_45 : decode zxm170.2.1 45 = .ok (.getfield 81, 3) := by decide +kernel
theorem zd170_48 : decode zxm170.2.1 48 = .ok (.aload_n 0, 1) := by decide +kernel
theorem zd170_49 : decode zxm170.2.1 49 = .ok (.getfield 19, 3) := by decide +kernel
theorem zd170_52 : decode zxm170.2.1 52 = .ok (.aload_n 0, 1) := by decide +kernel
theorem zd170_53 : decode zxm170.2.1 53 = .ok (.getfield 46, 3) := by decide +kernel
theorem zd170_56 : decode zxm170.2.1 56 = .ok (.invokevirtual 211, 3) := by decide +kernel
theorem zd170_59 : decode zxm170.2.1 59 = .ok (.aload_n 0, 1) := by decide +kernel
theorem zd170_60 : decode zxm170.2.1 60 = .ok (.getfield 103, 3) := by decide +kernel
theorem zd170_63 : decode zxm170.2.1 63 = .ok (.aload_n 0, 1) := by decide +kernel
theorem zd170_64 : decode zxm170.2.1 64 = .ok (.getfield 81, 3) := by decide +kernel
theorem zd170_67 : decode zxm170.2.1 67 = .ok (.aload_n 0, 1) := by decide +kernel
theorem zd170_68 : decode zxm170.2.1 68 = .ok (.getfield 25, 3) := by decide +kernel
theorem zd170_71 : decode zxm170.2.1 71 = .ok (.aload_n 0, 1) := by decide +kernel
theorem zd170_72 : decode zxm170.2.1 72 = .ok (.getfield 10, 3) := by decide +kernel
theorem zd170_75 : decode zxm170.2.1 75 = .ok (.aload_n 0, 1) := by decide +kernel
theorem zd170_76 : decode zxm170.2.1 76 = .ok (.getfield 25, 3) := by decide +kernel
theorem zd170_79 : decode zxm170.2.1 79 = .ok (.getfield 187, 3) := by decide +kernel
theorem zd170_82 : decode zxm170.2.1 82 = .ok (.iload_n 1, 1) := by decide +kernel
theorem zd170_83 : decode zxm170.2.1 83 = .ok (.iaload, 1) := by decide +kernel
theorem zd170_84 : decode zxm170.2.1 84 = .ok (.iload_n 2, 1) := by decide +kernel
theorem zd170_85 : decode zxm170.2.1 85 = .ok (.iload_n 3, 1) := by decide +kernel
theorem zd170_86 : decode zxm170.2.1 86 = .ok (.invokestatic 170, 3) := by decide +kernel
theorem zd170_89 : decode zxm170.2.1 89 = .ok (.iload 4, 2) := by decide +kernel
theorem zd170_91 : decode zxm170.2.1 91 = .ok (.invokevirtual 366, 3) := by decide +kernel
theorem zd170_94 : decode zxm170.2.1 94 = .ok (.ifCond .ne 6, 3) := by decide +kernel
theorem zd170_97 : decode zxm170.2.1 97 = .ok (.bipush (-2), 2) := by decide +kernel
theorem zd170_99 : decode zxm170.2.1 99 = .ok (.ireturn, 1) := by decide +kernel
theorem zd170_100 : decode zxm170.2.1 100 = .ok (.iload 5, 2) := by decide +kernel
theorem zd170_102 : decode zxm170.2.1 102 = .ok (.tableswitch 50 0 2 #[26, 34, 42], 26) := by decide +kernel
theorem zd170_128 : decode zxm170.2.1 128 = .ok (.aload_n 0, 1) := by decide +kernel
theorem zd170_129 : decode zxm170.2.1 129 = .ok (.getfield 103, 3) := by decide +kernel
theorem zd170_132 : decode zxm170.2.1 132 = .ok (.getfield 360, 3) := by decide +kernel
theorem zd170_135 : decode zxm170.2.1 135 = .ok (.ireturn, 1) := by decide +kernel
theorem zd170_136 : decode zxm170.2.1 136 = .ok (.aload_n 0, 1) := by decide +kernel
theorem zd170_137 : decode zxm170.2.1 137 = .ok (.getfield 103, 3) := by decide +kernel
theorem zd170_140 : decode zxm170.2.1 140 = .ok (.getfield 363, 3) := by decide +kernel
theorem zd170_143 : decode zxm170.2.1 143 = .ok (.ireturn, 1) := by decide +kernel
theorem zd170_144 : decode zxm170.2.1 144 = .ok (.aload_n 0, 1) := by decide +kernel
theorem zd170_145 : decode zxm170.2.1 145 = .ok (.getfield 103, 3) := by decide +kernel
theorem zd170_148 : decode zxm170.2.1 148 = .ok (.getfield 370, 3) := by decide +kernel
theorem zd170_151 : decode zxm170.2.1 151 = .ok (.ireturn, 1) := by decide +kernel
theorem zd170_152 : decode zxm170.2.1 152 = .ok (.aload_n 0, 1) := by decide +kernel
theorem zd170_153 : decode zxm170.2.1 153 = .ok (.getfield 103, 3) := by decide +kernel
theorem zd170_156 : decode zxm170.2.1 156 = .ok (.getfield 373, 3) := by decide +kernel
theorem zd170_159 : decode zxm170.2.1 159 = .ok (.ireturn, 1) := by decide +kernel
theorem zt_X_byTwo {x1 : Int} {x2 : Int} {x3 : Int} {x4 : Int} {x5 : Int} {f0 : Int} {f1 : Int} {f2 : Int} {f3 : Int} {f4 : Int} {f5 : Int} {f6 : Int} {f7 : Int} {f8 : Int} {f9 : Int} {f10 : Int} {f11 : Int} {f12 : Int} {f13 : Int} {f14 : Int} {f18 : Int} {f19 : Int} {f20 : Int} {f21 : Int} {f22 : Int} {f23 : Int} {f24 : Int} {f25 : Int} {f26 : Int} {f27 : Int} {f28 : Int} {f29 : Int} {f30 : Int} {f31 : Int} {g0 : (Int → Int)} {g1 : (Int → Int)} {g2 : (Int → Int)} {g3 : (Int → Int)} {g4 : (Int → Int)} {g5 : (Int → Int)} {g6 : (Int → Int)} {g7 : (Int → Int)} {g8 : (Int → Int)} {g9 : (Int → Int)} {g10 : (Int → Int)} {g11 : (Int → Int)} {g12 : (Int → Int)} {g13 : (Int → Int)} {g14 : (Int → Int)} {g15 : (Int → Int)} {g16 : (Int → Int)} {g17 : (Int → Int)} {g18 : (Int → Int)} {g19 : (Int → Int)} {g20 : (Int → Int)} {g21 : (Int → Int)} {g22 : (Int → Int)} {g23 : (Int → Int)} {g24 : (Int → Int)} {g25 : (Int → Int)} {o : Int × Int × Int × Int × Int × Int × Int × Int × Int × Int × Int × Int × Int × Int × Int × Int × Int × Int × Int × (Int → Int) × (Int → Int) × (Int → Int) × (Int → Int) × (Int → Int) × (Int → Int) × (Int → Int) × (Int → Int) × (Int → Int) × (Int → Int) × (Int → Int) × (Int → Int) × (Int → Int) × (Int → Int)} (h : zf_X_byTwo x1 x2 x3 x4 x5 f0 f1 f2 f3 f4 f5 f6 f7 f8 f9 f10 f11 f12 f13 f14 f18 f19 f20 f21 f22 f23 f24 f25 f26 f27 f28 f29 f30 f31 g0 g1 g2 g3 g4 g5 g6 g7 g8 g9 g10 g11 g12 g13 g14 g15 g16 g17 g18 g19 g20 g21 g22 g23 g24 g25 = some o) : zv_Fn z_TB z_cl z_KX zy_X_byTwo zxm170 (7, 420) [.inr 0, .inl x1, .inl x2, .inl x3, .inl x4, .inl x5] [.inl f0, .inl f1, .inl f2, .inl f3, .inl f4, .inl f5, .inl f6, .inl f7, .inl f8, .inl f9, .inl f10, .inl f11, .inl f12, .inl f13, .inl f14, .inr 15, .inr 1000, .inr 1000, .inl f18, .inl f19, .inl f20, .inl f21, .inl f22, .inl f23, .inl f24, .inl f25, .inl f26, .inl f27, .inl f28, .inl f29, .inl f30, .inl f31] [g0, g1, g2, g3, g4, g5, g6, g7, g8, g9, g10, g11, g12, g13, g14, g15, g16, g17, g18, g19, g20, g21, g22, g23, g24, g25] (some o.1) [.inl f0, .inl f1, .inl o.2.1, .inl f3, .inl o.2.2.1, .inl f5, .inl o.2.2.2.1, .inl f7, .inl o.2.2.2.2.1, .inl f9, .inl o.2.2.2.2.2.1, .inl f11, .inl o.2.2.2.2.2.2.1, .inl f13, .inl o.2.2.2.2.2.2.2.1, .inr 15, .inr 1000, .inr 1000, .inl o.2.2.2.2.2.2.2.2.1, .inl o.2.2.2.2.2.2.2.2.2.1, .inl o.2.2.2.2.2.2.2.2.2.2.1, .inl o.2.2.2.2.2.2.2.2.2.2.2.1, .inl f22, .inl o.2.2.2.2.2.2.2.2.2.2.2.2.1, .inl f24, .inl o.2.2.2.2.2.2.2.2.2.2.2.2.2.1, .inl f26, .inl o.2.2.2.2.2.2.2.2.2.2.2.2.2.2.1, .inl o.2.2.2.2.2.2.2.2.2.2.2.2.2.2.2.1, .inl o.2.2.2.2.2.2.2.2.2.2.2.2.2.2.2.2.1, .inl o.2.2.2.2.2.2.2.2.2.2.2.2.2.2.2.2.2.1, .inl o.2.2.2.2.2.2.2.2.2.2.2.2.2.2.2.2.2.2.1] [g0, o.2.2.2.2.2.2.2.2.2.2.2.2.2.2.2.2.2.2.2.1, g2, o.2.2.2.2.2.2.2.2.2.2.2.2.2.2.2.2.2.2.2.2.1, g4, o.2.2.2.2.2.2.2.2.2.2.2.2.2.2.2.2.2.2.2.2.2.1, g6, o.2.2.2.2.2.2.2.2.2.2.2.2.2.2.2.2.2.2.2.2.2.2.1, g8, o.2.2.2.2.2.2.2.2.2.2.2.2.2.2.2.2.2.2.2.2.2.2.2.1, o.2.2.2.2.2.2.2.2.2.2.2.2.2.2.2.2.2.2.2.2.2.2.2.2.1, g11, o.2.2.2.2.2.2.2.2.2.2.2.2.2.2.2.2.2.2.2.2.2.2.2.2.2.1, o.2.2.2.2.2.2.2.2.2.2.2.2.2.2.2.2.2.2.2.2.2.2.2.2.2.2.1, g14, g15, g16, g17, o.2.2.2.2.2.2.2.2.2.2.2.2.2.2.2.2.2.2.2.2.2.2.2.2.2.2.2.1, g19, g20, o.2.2.2.2.2.2.2.2.2.2.2.2.2.2.2.2.2.2.2.2.2.2.2.2.2.2.2.2.1, o.2.2.2.2.2.2.2.2.2.2.2.2.2.2.2.2.2.2.2.2.2.2.2.2.2.2.2.2.2.1, o.2.2.2.2.2.2.2.2.2.2.2.2.2.2.2.2.2.2.2.2.2.2.2.2.2.2.2.2.2.2.1, o.2.2.2.2.2.2.2.2.2.2.2.2.2.2.2.2.2.2.2.2.2.2.2.2.2.2.2.2.2.2.2.1, o.2.2.2.2.2.2.2.2.2.2.2.2.2.2.2.2.2.2.2.2.2.2.2.2.2.2.2.2.2.2.2.2] := zv_meth (K := (z_KF0, z_KC0, z_KL0, z_KT0, [], [], [], none)) (FT := z_FT) (MT := z_MT) (n := 6) zxp170 (z_ks0 _ (fun _ h => List.mem_cons_of_mem _ h) _ _ _ _ (fun j r h _ => by cases h)) (fun _ _ => zs_KX_p) zyw_X_byTwo (fun va F G h => by obtain ⟨rfl, _⟩ := h; rfl) (fun va F G h => by obtain ⟨rfl, _⟩ := h; rfl) rfl fun good va F G hB hret hvret hP => by
  obtain ⟨rfl, rfl, rfl⟩ := hP
  unfold zf_X_byTwo at h
  refine zv_ald hB zd170_0 rfl rfl rfl ?_
  refine zv_ild hB zd170_1 rfl rfl ?_
  refine zv_ild hB zd170_2 rfl rfl ?_
  refine zv_ild hB zd170_3 rfl rfl ?_
  obtain ⟨r1, hr1, h⟩ := zi_bind h
  refine zv_cv hB (zv_emq (va2 := [.inr 0, .inl x1, .inl x2, .inl x3]) (F := [.inl f0, .inl f1, .inl f2, .inl f3, .inl f4, .inl f5, .inl f6, .inl f7, .inl f8, .inl f9, .inl f10, .inl f11, .inl f12, .inl f13, .inl f14, .inr 15, .inr 1000, .inr 1000, .inl f18, .inl f19, .inl f20, .inl f21, .inl f22, .inl f23, .inl f24, .inl f25, .inl f26, .inl f27, .inl f28, .inl f29, .inl f30, .inl f31]) (F' := [.inl f0, .inl f1, .inl f2, .inl f3, .inl f4, .inl f5, .inl f6, .inl f7, .inl f8, .inl f9, .inl f10, .inl f11, .inl f12, .inl f13, .inl f14, .inr 15, .inr 1000, .inr 1000, .inl f18, .inl f19, .inl f20, .inl f21, .inl f22, .inl f23, .inl f24, .inl f25, .inl f26, .inl f27, .inl f28, .inl f29, .inl f30, .inl f31]) (G := [g0, g1, g2, g3, g4, g5, g6, g7, g8, g9, g10, g11, g12, g13, g14, g15, g16, g17, g18, g19, g20, g21, g22, g23, g24, g25]) (G' := [g0, g1, g2, g3, g4, g5, g6, g7, g8, g9, g10, g11, g12, g13, g14, g15, g16, g17, g18, g19, g20, g21, g22, g23, g24, g25]) (ρ := [0, 1, 2]) (φ := [0, 1]) (ψ := []) [some 0, some 1, none, none, none, none, none, none, none, none, none, none, none, none, none, none, none, none, none, none, none, none, none, none, none, none, none, none, none, none, none, none] [none, none, none, none, none, none, none, none, none, none, none, none, none, none, none, none, none, none, none, none, none, none, none, none, none, none] zyw_X_canAskVoyage zyw_X_byTwo zye_X_byTwo (by decide +kernel) (zt_X_canAskVoyage hr1) ⟨⟨_, rfl, fun _ => rfl⟩, ⟨_, rfl, fun _ => rfl⟩, trivial⟩ trivial rfl rfl rfl rfl rfl rfl rfl) zd170_4 zxt166 rfl (by decide) (by decide) rfl ?_
  refine zv_zeq hB zd170_7 rfl (fun hc2 => ?_) (fun hc2 => ?_)
  · rw [if_pos hc2] at h
    refine zv_con hB zd170_31 rfl ?_
    have hw := Option.some.inj h
    subst hw
    exact hret _ _ _ _ _ zd170_32 (by trivial) ⟨rfl, rfl, rfl⟩
  · rw [if_neg hc2] at h
    refine zv_ild hB zd170_10 rfl rfl ?_
    refine zv_con hB zd170_12 rfl ?_
    refine zv_con hB zd170_13 rfl ?_
    obtain ⟨r3, hr3, h⟩ := zi_bind h
    refine zv_cs hB (zv_emq (va2 := [.inl x4, .inl 2, .inl 12]) (F := [.inl f0, .inl f1, .inl f2, .inl f3, .inl f4, .inl f5, .inl f6, .inl f7, .inl f8, .inl f9, .inl f10, .inl f11, .inl f12, .inl f13, .inl f14, .inr 15, .inr 1000, .inr 1000, .inl f18, .inl f19, .inl f20, .inl f21, .inl f22, .inl f23, .inl f24, .inl f25, .inl f26, .inl f27, .inl f28, .inl f29, .inl f30, .inl f31]) (F' := [.inl f0, .inl f1, .inl f2, .inl f3, .inl f4, .inl f5, .inl f6, .inl f7, .inl f8, .inl f9, .inl f10, .inl f11, .inl f12, .inl f13, .inl f14, .inr 15, .inr 1000, .inr 1000, .inl f18, .inl f19, .inl f20, .inl f21, .inl f22, .inl f23, .inl f24, .inl f25, .inl f26, .inl f27, .inl f28, .inl f29, .inl f30, .inl f31]) (G := [g0, g1, g2, g3, g4, g5, g6, g7, g8, g9, g10, g11, g12, g13, g14, g15, g16, g17, g18, g19, g20, g21, g22, g23, g24, g25]) (G' := [g0, g1, g2, g3, g4, g5, g6, g7, g8, g9, g10, g11, g12, g13, g14, g15, g16, g17, g18, g19, g20, g21, g22, g23, g24, g25]) (ρ := []) (φ := []) (ψ := []) [none, none, none, none, none, none, none, none, none, none, none, none, none, none, none, none, none, none, none, none, none, none, none, none, none, none, none, none, none, none, none, none] [none, none, none, none, none, none, none, none, none, none, none, none, none, none, none, none, none, none, none, none, none, none, none, none, none, none] zyw_X_isWithin zyw_X_byTwo zye_X_byTwo (by decide +kernel) (zt_X_isWithin hr3) trivial trivial rfl rfl rfl rfl rfl rfl rfl) zd170_15 zxt15 rfl (by decide) (by decide) rfl ?_
    refine zv_zeq hB zd170_18 rfl (fun hc4 => ?_) (fun hc4 => ?_)
    · rw [if_pos hc4] at h
      refine zv_con hB zd170_31 rfl ?_
      have hw := Option.some.inj h
      subst hw
      exact hret _ _ _ _ _ zd170_32 (by trivial) ⟨rfl, rfl, rfl⟩
    · rw [if_neg hc4] at h
      refine zv_ild hB zd170_21 rfl rfl ?_
      refine zv_con hB zd170_23 rfl ?_
      refine zv_con hB zd170_24 rfl ?_
      obtain ⟨r5, hr5, h⟩ := zi_bind h
      refine zv_cs hB (zv_emq (va2 := [.inl x5, .inl 0, .inl 3]) (F := [.inl f0, .inl f1, .inl f2, .inl f3, .inl f4, .inl f5, .inl f6, .inl f7, .inl f8, .inl f9, .inl f10, .inl f11, .inl f12, .inl f13, .inl f14, .inr 15, .inr 1000, .inr 1000, .inl f18, .inl f19, .inl f20, .inl f21, .inl f22, .inl f23, .inl f24, .inl f25, .inl f26, .inl f27, .inl f28, .inl f29, .inl f30, .inl f31]) (F' := [.inl f0, .inl f1, .inl f2, .inl f3, .inl f4, .inl f5, .inl f6, .inl f7, .inl f8, .inl f9, .inl f10, .inl f11, .inl f12, .inl f13, .inl f14, .inr 15, .inr 1000, .inr 1000, .inl f18, .inl f19, .inl f20, .inl f21, .inl f22, .inl f23, .inl f24, .inl f25, .inl f26, .inl f27, .inl f28, .inl f29, .inl f30, .inl f31]) (G := [g0, g1, g2, g3, g4, g5, g6, g7, g8, g9, g10, g11, g12, g13, g14, g15, g16, g17, g18, g19, g20, g21, g22, g23, g24, g25]) (G' := [g0, g1, g2, g3, g4, g5, g6, g7, g8, g9, g10, g11, g12, g13, g14, g15, g16, g17, g18, g19, g20, g21, g22, g23, g24, g25]) (ρ := []) (φ := []) (ψ := []) [none, none, none, none, none, none, none, none, none, none, none, none, none, none, none, none, none, none, none, none, none, none, none, none, none, none, none, none, none, none, none, none] [none, none, none, none, none, none, none, none, none, none, none, none, none, none, none, none, none, none, none, none, none, none, none, none, none, none] zyw_X_isWithin zyw_X_byTwo zye_X_byTwo (by decide +kernel) (zt_X_isWithin hr5) trivial trivial rfl rfl rfl rfl rfl rfl rfl) zd170_25 zxt15 rfl (by decide) (by decide) rfl ?_
      refine zv_zne hB zd170_28 rfl (fun hc6 => ?_) (fun hc6 => ?_)
      · rw [if_neg hc6] at h
        refine zv_ald hB zd170_33 rfl rfl rfl ?_
        refine zv_getr hB zd170_34 rfl ?_
        refine zv_ald hB zd170_37 rfl rfl rfl ?_
        refine zv_getr hB zd170_38 rfl ?_
        obtain ⟨r7, hr7, h⟩ := zi_bind h
        refine zv_cv hB (zv_emq (va2 := [.inr 3, .inr 2]) (F := [.inl f0, .inl f1, .inl f2, .inl f3, .inl f4, .inl f5, .inl f6, .inl f7, .inl f8, .inl f9, .inl f10, .inl f11, .inl f12, .inl f13, .inl f14, .inr 15, .inr 1000, .inr 1000, .inl f18, .inl f19, .inl f20, .inl f21, .inl f22, .inl f23, .inl f24, .inl f25, .inl f26, .inl f27, .inl f28, .inl f29, .inl f30, .inl f31]) (F' := [.inl f0, .inl f1, .inl r7.1, .inl f3, .inl r7.2.1, .inl f5, .inl r7.2.2.1, .inl f7, .inl r7.2.2.2.1, .inl f9, .inl r7.2.2.2.2.1, .inl f11, .inl r7.2.2.2.2.2.1, .inl f13, .inl r7.2.2.2.2.2.2.1, .inr 15, .inr 1000, .inr 1000, .inl f18, .inl f19, .inl f20, .inl f21, .inl f22, .inl f23, .inl f24, .inl f25, .inl f26, .inl f27, .inl f28, .inl f29, .inl f30, .inl f31]) (G := [g0, g1, g2, g3, g4, g5, g6, g7, g8, g9, g10, g11, g12, g13, g14, g15, g16, g17, g18, g19, g20, g21, g22, g23, g24, g25]) (G' := [g0, r7.2.2.2.2.2.2.2.1, g2, r7.2.2.2.2.2.2.2.2.1, g4, r7.2.2.2.2.2.2.2.2.2.1, g6, r7.2.2.2.2.2.2.2.2.2.2.1, g8, r7.2.2.2.2.2.2.2.2.2.2.2, g10, g11, g12, g13, g14, g15, g16, g17, g18, g19, g20, g21, g22, g23, g24, g25]) (ρ := [3, 2, 4, 5, 6, 7, 8, 9, 10, 11, 12, 13]) (φ := [1, 2, 3, 4, 5, 6, 7, 8, 9, 10, 11, 12, 13, 14]) (ψ := [0, 1, 2, 3, 4, 5, 6, 7, 8, 9]) [none, some 0, some 1, some 2, some 3, some 4, some 5, some 6, some 7, some 8, some 9, some 10, some 11, some 12, some 13, none, none, none, none, none, none, none, none, none, none, none, none, none, none, none, none, none] [some 0, some 1, some 2, some 3, some 4, some 5, some 6, some 7, some 8, some 9, none, none, none, none, none, none, none, none, none, none, none, none, none, none, none, none] zyw_Sky_copyFrom zyw_X_byTwo zye_X_byTwo (by decide +kernel) (zt_Sky_copyFrom hr7) ⟨⟨_, rfl, fun _ => rfl⟩, ⟨_, rfl, fun _ => rfl⟩, ⟨_, rfl, fun _ => rfl⟩, ⟨_, rfl, fun _ => rfl⟩, ⟨_, rfl, fun _ => rfl⟩, ⟨_, rfl, fun _ => rfl⟩, ⟨_, rfl, fun _ => rfl⟩, ⟨_, rfl, fun _ => rfl⟩, ⟨_, rfl, fun _ => rfl⟩, ⟨_, rfl, fun _ => rfl⟩, ⟨_, rfl, fun _ => rfl⟩, ⟨_, rfl, fun _ => rfl⟩, ⟨_, rfl, fun _ => rfl⟩, ⟨_, rfl, fun _ => rfl⟩, trivial⟩ ⟨rfl, rfl, rfl, rfl, rfl, rfl, rfl, rfl, rfl, rfl, trivial⟩ rfl rfl rfl rfl rfl rfl rfl) zd170_41 zxt125 rfl (by decide) (by decide) rfl ?_
        refine zv_ald hB zd170_44 rfl rfl rfl ?_
        refine zv_getr hB zd170_45 rfl ?_
        refine zv_ald hB zd170_48 rfl rfl rfl ?_
        refine zv_getr hB zd170_49 rfl ?_
        refine zv_ald hB zd170_52 rfl rfl rfl ?_
        refine zv_getq hB zd170_53 rfl rfl rfl ?_
        obtain ⟨r8, hr8, h⟩ := zi_bind h
        refine zv_cv hB (zv_emq (va2 := [.inr 14, .inr 3, .inr 15]) (F := [.inl f0, .inl f1, .inl r7.1, .inl f3, .inl r7.2.1, .inl f5, .inl r7.2.2.1, .inl f7, .inl r7.2.2.2.1, .inl f9, .inl r7.2.2.2.2.1, .inl f11, .inl r7.2.2.2.2.2.1, .inl f13, .inl r7.2.2.2.2.2.2.1, .inr 15, .inr 1000, .inr 1000, .inl f18, .inl f19, .inl f20, .inl f21, .inl f22, .inl f23, .inl f24, .inl f25, .inl f26, .inl f27, .inl f28, .inl f29, .inl f30, .inl f31]) (F' := [.inl f0, .inl f1, .inl r7.1, .inl f3, .inl r7.2.1, .inl f5, .inl r7.2.2.1, .inl f7, .inl r7.2.2.2.1, .inl f9, .inl r7.2.2.2.2.1, .inl f11, .inl r7.2.2.2.2.2.1, .inl f13, .inl r7.2.2.2.2.2.2.1, .inr 15, .inr 3, .inr 15, .inl r8.1, .inl f19, .inl f20, .inl f21, .inl f22, .inl f23, .inl f24, .inl f25, .inl f26, .inl f27, .inl f28, .inl f29, .inl f30, .inl f31]) (G := [g0, r7.2.2.2.2.2.2.2.1, g2, r7.2.2.2.2.2.2.2.2.1, g4, r7.2.2.2.2.2.2.2.2.2.1, g6, r7.2.2.2.2.2.2.2.2.2.2.1, g8, r7.2.2.2.2.2.2.2.2.2.2.2, g10, g11, g12, g13, g14, g15, g16, g17, g18, g19, g20, g21, g22, g23, g24, g25]) (G' := [g0, r7.2.2.2.2.2.2.2.1, g2, r7.2.2.2.2.2.2.2.2.1, g4, r7.2.2.2.2.2.2.2.2.2.1, g6, r7.2.2.2.2.2.2.2.2.2.2.1, g8, r7.2.2.2.2.2.2.2.2.2.2.2, r8.2, g11, g12, g13, g14, g15, g16, g17, g18, g19, g20, g21, g22, g23, g24, g25]) (ρ := [14, 3, 15, 16]) (φ := [16, 17, 18]) (ψ := [10]) [none, none, none, none, none, none, none, none, none, none, none, none, none, none, none, none, some 0, some 1, some 2, none, none, none, none, none, none, none, none, none, none, none, none, none] [none, none, none, none, none, none, none, none, none, none, some 0, none, none, none, none, none, none, none, none, none, none, none, none, none, none, none] zyw_View_open zyw_X_byTwo zye_X_byTwo (by decide +kernel) (zt_View_open hr8) ⟨⟨_, rfl, fun (h : zv_is (.inr 1000)) => (Nat.lt_irrefl 1000 h).elim⟩, ⟨_, rfl, fun (h : zv_is (.inr 1000)) => (Nat.lt_irrefl 1000 h).elim⟩, ⟨_, rfl, fun _ => rfl⟩, trivial⟩ ⟨rfl, trivial⟩ rfl rfl rfl rfl rfl rfl rfl) zd170_56 zxt84 rfl (by decide) (by decide) rfl ?_
        refine zv_ald hB zd170_59 rfl rfl rfl ?_
        refine zv_getr hB zd170_60 rfl ?_
        refine zv_ald hB zd170_63 rfl rfl rfl ?_
        refine zv_getr hB zd170_64 rfl ?_
        refine zv_ald hB zd170_67 rfl rfl rfl ?_
        refine zv_getr hB zd170_68 rfl ?_
        refine zv_ald hB zd170_71 rfl rfl rfl ?_
        refine zv_getr hB zd170_72 rfl ?_
        refine zv_ald hB zd170_75 rfl rfl rfl ?_
        refine zv_getr hB zd170_76 rfl ?_
        refine zv_getr hB zd170_79 rfl ?_
        refine zv_ild hB zd170_82 rfl rfl ?_
        obtain ⟨c9, h⟩ := zi_if h
        refine zv_iald hB zd170_83 rfl rfl (zi_ix_ok c9).1 (zi_ix_ok c9).2 (fun _ _ => ?_)
        refine zv_ild hB zd170_84 rfl rfl ?_
        refine zv_ild hB zd170_85 rfl rfl ?_
        obtain ⟨r10, hr10, h⟩ := zi_bind h
        refine zv_cs hB (zv_emq (va2 := [.inl x2, .inl x3]) (F := [.inl f0, .inl f1, .inl r7.1, .inl f3, .inl r7.2.1, .inl f5, .inl r7.2.2.1, .inl f7, .inl r7.2.2.2.1, .inl f9, .inl r7.2.2.2.2.1, .inl f11, .inl r7.2.2.2.2.2.1, .inl f13, .inl r7.2.2.2.2.2.2.1, .inr 15, .inr 3, .inr 15, .inl r8.1, .inl f19, .inl f20, .inl f21, .inl f22, .inl f23, .inl f24, .inl f25, .inl f26, .inl f27, .inl f28, .inl f29, .inl f30, .inl f31]) (F' := [.inl f0, .inl f1, .inl r7.1, .inl f3, .inl r7.2.1, .inl f5, .inl r7.2.2.1, .inl f7, .inl r7.2.2.2.1, .inl f9, .inl r7.2.2.2.2.1, .inl f11, .inl r7.2.2.2.2.2.1, .inl f13, .inl r7.2.2.2.2.2.2.1, .inr 15, .inr 3, .inr 15, .inl r8.1, .inl f19, .inl f20, .inl f21, .inl f22, .inl f23, .inl f24, .inl f25, .inl f26, .inl f27, .inl f28, .inl f29, .inl f30, .inl f31]) (G := [g0, r7.2.2.2.2.2.2.2.1, g2, r7.2.2.2.2.2.2.2.2.1, g4, r7.2.2.2.2.2.2.2.2.2.1, g6, r7.2.2.2.2.2.2.2.2.2.2.1, g8, r7.2.2.2.2.2.2.2.2.2.2.2, r8.2, g11, g12, g13, g14, g15, g16, g17, g18, g19, g20, g21, g22, g23, g24, g25]) (G' := [g0, r7.2.2.2.2.2.2.2.1, g2, r7.2.2.2.2.2.2.2.2.1, g4, r7.2.2.2.2.2.2.2.2.2.1, g6, r7.2.2.2.2.2.2.2.2.2.2.1, g8, r7.2.2.2.2.2.2.2.2.2.2.2, r8.2, g11, g12, g13, g14, g15, g16, g17, g18, g19, g20, g21, g22, g23, g24, g25]) (ρ := []) (φ := []) (ψ := []) [none, none, none, none, none, none, none, none, none, none, none, none, none, none, none, none, none, none, none, none, none, none, none, none, none, none, none, none, none, none, none, none] [none, none, none, none, none, none, none, none, none, none, none, none, none, none, none, none, none, none, none, none, none, none, none, none, none, none] zyw_X_placeOf zyw_X_byTwo zye_X_byTwo (by decide +kernel) (zt_X_placeOf hr10) trivial trivial rfl rfl rfl rfl rfl rfl rfl) zd170_86 zxt24 rfl (by decide) (by decide) rfl ?_
        refine zv_ild hB zd170_89 rfl rfl ?_
        obtain ⟨r11, hr11, h⟩ := zi_bind h
        refine zv_cv hB (zv_emq (va2 := [.inr 17, .inr 14, .inr 1, .inr 2, .inl (g11 x1), .inl r10, .inl x4]) (F := [.inl f0, .inl f1, .inl r7.1, .inl f3, .inl r7.2.1, .inl f5, .inl r7.2.2.1, .inl f7, .inl r7.2.2.2.1, .inl f9, .inl r7.2.2.2.2.1, .inl f11, .inl r7.2.2.2.2.2.1, .inl f13, .inl r7.2.2.2.2.2.2.1, .inr 15, .inr 3, .inr 15, .inl r8.1, .inl f19, .inl f20, .inl f21, .inl f22, .inl f23, .inl f24, .inl f25, .inl f26, .inl f27, .inl f28, .inl f29, .inl f30, .inl f31]) (F' := [.inl f0, .inl f1, .inl r11.2.2.1, .inl f3, .inl r11.2.2.2.2.2.1, .inl f5, .inl r11.2.2.2.2.2.2.1, .inl f7, .inl r11.2.2.2.2.2.2.2.2.2.1, .inl f9, .inl r11.2.2.2.2.2.2.2.1, .inl f11, .inl r11.2.2.2.2.2.2.2.2.1, .inl f13, .inl r11.2.2.2.2.2.2.2.2.2.2.2.2.2.2.1, .inr 15, .inr 3, .inr 15, .inl r11.2.2.2.2.2.2.2.2.2.2.1, .inl r11.2.1, .inl r11.2.2.2.1, .inl r11.2.2.2.2.1, .inl f22, .inl r11.2.2.2.2.2.2.2.2.2.2.2.1, .inl f24, .inl r11.2.2.2.2.2.2.2.2.2.2.2.2.1, .inl f26, .inl r11.2.2.2.2.2.2.2.2.2.2.2.2.2.1, .inl r11.2.2.2.2.2.2.2.2.2.2.2.2.2.2.2.1, .inl r11.2.2.2.2.2.2.2.2.2.2.2.2.2.2.2.2.1, .inl r11.2.2.2.2.2.2.2.2.2.2.2.2.2.2.2.2.2.1, .inl r11.2.2.2.2.2.2.2.2.2.2.2.2.2.2.2.2.2.2.1]) (G := [g0, r7.2.2.2.2.2.2.2.1, g2, r7.2.2.2.2.2.2.2.2.1, g4, r7.2.2.2.2.2.2.2.2.2.1, g6, r7.2.2.2.2.2.2.2.2.2.2.1, g8, r7.2.2.2.2.2.2.2.2.2.2.2, r8.2, g11, g12, g13, g14, g15, g16, g17, g18, g19, g20, g21, g22, g23, g24, g25]) (G' := [g0, r11.2.2.2.2.2.2.2.2.2.2.2.2.2.2.2.2.2.2.2.2.2.1, g2, r11.2.2.2.2.2.2.2.2.2.2.2.2.2.2.2.2.2.2.2.2.2.2.1, g4, r11.2.2.2.2.2.2.2.2.2.2.2.2.2.2.2.2.2.2.2.2.2.2.2.1, g6, r11.2.2.2.2.2.2.2.2.2.2.2.2.2.2.2.2.2.2.2.2.2.2.2.2.2.2.2.2.1, g8, r11.2.2.2.2.2.2.2.2.2.2.2.2.2.2.2.2.2.2.2.2.2.2.2.2.2.2.2.2.2.1, r11.2.2.2.2.2.2.2.2.2.2.2.2.2.2.2.2.2.2.2.2.2.2.2.2.2.2.2.2.2.2.1, g11, r11.2.2.2.2.2.2.2.2.2.2.2.2.2.2.2.2.2.2.2.1, r11.2.2.2.2.2.2.2.2.2.2.2.2.2.2.2.2.2.2.2.2.1, g14, g15, g16, g17, r11.2.2.2.2.2.2.2.2.2.2.2.2.2.2.2.2.2.2.2.2.2.2.2.2.1, g19, g20, r11.2.2.2.2.2.2.2.2.2.2.2.2.2.2.2.2.2.2.2.2.2.2.2.2.2.1, r11.2.2.2.2.2.2.2.2.2.2.2.2.2.2.2.2.2.2.2.2.2.2.2.2.2.2.1, r11.2.2.2.2.2.2.2.2.2.2.2.2.2.2.2.2.2.2.2.2.2.2.2.2.2.2.2.1, r11.2.2.2.2.2.2.2.2.2.2.2.2.2.2.2.2.2.2.2.2.2.2.2.2.2.2.2.2.2.2.2.1, r11.2.2.2.2.2.2.2.2.2.2.2.2.2.2.2.2.2.2.2.2.2.2.2.2.2.2.2.2.2.2.2.2]) (ρ := [17, 14, 1, 2, 19, 3, 15, 20, 5, 7, 9, 21, 22, 23, 24, 25, 26, 27, 28, 29, 30, 11, 13, 16, 4, 6, 8, 10, 12, 31, 32]) (φ := [19, 16, 17, 2, 20, 21, 4, 6, 10, 12, 8, 22, 18, 23, 24, 25, 26, 1, 27, 3, 5, 7, 9, 11, 13, 14, 28, 29, 30, 31]) (ψ := [12, 13, 1, 3, 5, 14, 15, 16, 17, 18, 19, 20, 21, 22, 23, 7, 9, 10, 0, 2, 4, 6, 8, 24, 25]) [none, some 17, some 3, some 19, some 6, some 20, some 7, some 21, some 10, some 22, some 8, some 23, some 9, some 24, some 25, none, some 1, some 2, some 12, some 0, some 4, some 5, some 11, some 13, some 14, some 15, some 16, some 18, some 26, some 27, some 28, some 29] [some 18, some 2, some 19, some 3, some 20, some 4, some 21, some 15, some 22, some 16, some 17, none, some 0, some 1, some 5, some 6, some 7, some 8, some 9, some 10, some 11, some 12, some 13, some 14, some 23, some 24] zyw_Pilot_findByTwo zyw_X_byTwo zye_X_byTwo (by decide +kernel) (zt_Pilot_findByTwo hr11) ⟨⟨_, rfl, fun _ => rfl⟩, ⟨_, rfl, fun _ => rfl⟩, ⟨_, rfl, fun _ => rfl⟩, ⟨_, rfl, fun _ => rfl⟩, ⟨_, rfl, fun _ => rfl⟩, ⟨_, rfl, fun _ => rfl⟩, ⟨_, rfl, fun _ => rfl⟩, ⟨_, rfl, fun _ => rfl⟩, ⟨_, rfl, fun _ => rfl⟩, ⟨_, rfl, fun _ => rfl⟩, ⟨_, rfl, fun _ => rfl⟩, ⟨_, rfl, fun _ => rfl⟩, ⟨_, rfl, fun _ => rfl⟩, ⟨_, rfl, fun _ => rfl⟩, ⟨_, rfl, fun _ => rfl⟩, ⟨_, rfl, fun _ => rfl⟩, ⟨_, rfl, fun _ => rfl⟩, ⟨_, rfl, fun _ => rfl⟩, ⟨_, rfl, fun _ => rfl⟩, ⟨_, rfl, fun _ => rfl⟩, ⟨_, rfl, fun _ => rfl⟩, ⟨_, rfl, fun _ => rfl⟩, ⟨_, rfl, fun _ => rfl⟩, ⟨_, rfl, fun _ => rfl⟩, ⟨_, rfl, fun _ => rfl⟩, ⟨_, rfl, fun _ => rfl⟩, ⟨_, rfl, fun _ => rfl⟩, ⟨_, rfl, fun _ => rfl⟩, ⟨_, rfl, fun _ => rfl⟩, ⟨_, rfl, fun _ => rfl⟩, trivial⟩ ⟨rfl, rfl, rfl, rfl, rfl, rfl, rfl, rfl, rfl, rfl, rfl, rfl, rfl, rfl, rfl, rfl, rfl, rfl, rfl, rfl, rfl, rfl, rfl, rfl, rfl, trivial⟩ rfl rfl rfl rfl rfl rfl rfl) zd170_91 zxt171 rfl (by decide) (by decide) rfl ?_
        refine zv_zne hB zd170_94 rfl (fun hc12 => ?_) (fun hc12 => ?_)
        · rw [if_neg hc12] at h
          refine zv_ild hB zd170_100 rfl rfl ?_
          refine zv_tsw hB zd170_102 rfl ?_
          refine ⟨fun hc13 => ⟨_, rfl, ?_⟩, fun hc13 => ?_⟩
          · replace hc13 : x5 = 0 := hc13
            rw [if_pos hc13] at h
            refine zv_ald hB zd170_128 rfl rfl rfl ?_
            refine zv_getr hB zd170_129 rfl ?_
            refine zv_getf hB zd170_132 rfl rfl (fun _ _ => ?_)
            have hw := Option.some.inj h
            refine zv_wk hB (L' := [.inr 0, .inl x1, .inl x2, .inl x3, .inl x4, .inl x5]) (F' := [.inl f0, .inl f1, .inl r11.2.2.1, .inl f3, .inl r11.2.2.2.2.2.1, .inl f5, .inl r11.2.2.2.2.2.2.1, .inl f7, .inl r11.2.2.2.2.2.2.2.2.2.1, .inl f9, .inl r11.2.2.2.2.2.2.2.1, .inl f11, .inl r11.2.2.2.2.2.2.2.2.1, .inl f13, .inl r11.2.2.2.2.2.2.2.2.2.2.2.2.2.2.1, .inr 15, .inr 1000, .inr 1000, .inl r11.2.2.2.2.2.2.2.2.2.2.1, .inl r11.2.1, .inl r11.2.2.2.1, .inl r11.2.2.2.2.1, .inl f22, .inl r11.2.2.2.2.2.2.2.2.2.2.2.1, .inl f24, .inl r11.2.2.2.2.2.2.2.2.2.2.2.2.1, .inl f26, .inl r11.2.2.2.2.2.2.2.2.2.2.2.2.2.1, .inl r11.2.2.2.2.2.2.2.2.2.2.2.2.2.2.2.1, .inl r11.2.2.2.2.2.2.2.2.2.2.2.2.2.2.2.2.1, .inl r11.2.2.2.2.2.2.2.2.2.2.2.2.2.2.2.2.2.1, .inl r11.2.2.2.2.2.2.2.2.2.2.2.2.2.2.2.2.2.2.1]) ⟨fun _ => rfl, fun _ => rfl, fun _ => rfl, fun _ => rfl, fun _ => rfl, fun _ => rfl, trivial⟩ ⟨fun _ => rfl, fun _ => rfl, fun _ => rfl, fun _ => rfl, fun _ => rfl, fun _ => rfl, fun _ => rfl, fun _ => rfl, fun _ => rfl, fun _ => rfl, fun _ => rfl, fun _ => rfl, fun _ => rfl, fun _ => rfl, fun _ => rfl, fun _ => rfl, fun (h : zv_is (.inr 1000)) => (Nat.lt_irrefl 1000 h).elim, fun (h : zv_is (.inr 1000)) => (Nat.lt_irrefl 1000 h).elim, fun _ => rfl, fun _ => rfl, fun _ => rfl, fun _ => rfl, fun _ => rfl, fun _ => rfl, fun _ => rfl, fun _ => rfl, fun _ => rfl, fun _ => rfl, fun _ => rfl, fun _ => rfl, fun _ => rfl, fun _ => rfl, trivial⟩ ?_
            subst hw
            exact hret _ _ _ _ _ zd170_135 (by trivial) ⟨rfl, rfl, rfl⟩
          replace hc13 : x5 ≠ 0 := hc13
          rw [if_neg hc13] at h
          refine ⟨fun hc14 => ⟨_, rfl, ?_⟩, fun hc14 => ?_⟩
          · replace hc14 : x5 = 1 := hc14
            rw [if_pos hc14] at h
            refine zv_ald hB zd170_136 rfl rfl rfl ?_
            refine zv_getr hB zd170_137 rfl ?_
            refine zv_getf hB zd170_140 rfl rfl (fun _ _ => ?_)
            have hw := Option.some.inj h
            refine zv_wk hB (L' := [.inr 0, .inl x1, .inl x2, .inl x3, .inl x4, .inl x5]) (F' := [.inl f0, .inl f1, .inl r11.2.2.1, .inl f3, .inl r11.2.2.2.2.2.1, .inl f5, .inl r11.2.2.2.2.2.2.1, .inl f7, .inl r11.2.2.2.2.2.2.2.2.2.1, .inl f9, .inl r11.2.2.2.2.2.2.2.1, .inl f11, .inl r11.2.2.2.2.2.2.2.2.1, .inl f13, .inl r11.2.2.2.2.2.2.2.2.2.2.2.2.2.2.1, .inr 15, .inr 1000, .inr 1000, .inl r11.2.2.2.2.2.2.2.2.2.2.1, .inl r11.2.1, .inl r11.2.2.2.1, .inl r11.2.2.2.2.1, .inl f22, .inl r11.2.2.2.2.2.2.2.2.2.2.2.1, .inl f24, .inl r11.2.2.2.2.2.2.2.2.2.2.2.2.1, .inl f26, .inl r11.2.2.2.2.2.2.2.2.2.2.2.2.2.1, .inl r11.2.2.2.2.2.2.2.2.2.2.2.2.2.2.2.1, .inl r11.2.2.2.2.2.2.2.2.2.2.2.2.2.2.2.2.1, .inl r11.2.2.2.2.2.2.2.2.2.2.2.2.2.2.2.2.2.1, .inl r11.2.2.2.2.2.2.2.2.2.2.2.2.2.2.2.2.2.2.1]) ⟨fun _ => rfl, fun _ => rfl, fun _ => rfl, fun _ => rfl, fun _ => rfl, fun _ => rfl, trivial⟩ ⟨fun _ => rfl, fun _ => rfl, fun _ => rfl, fun _ => rfl, fun _ => rfl, fun _ => rfl, fun _ => rfl, fun _ => rfl, fun _ => rfl, fun _ => rfl, fun _ => rfl, fun _ => rfl, fun _ => rfl, fun _ => rfl, fun _ => rfl, fun _ => rfl, fun (h : zv_is (.inr 1000)) => (Nat.lt_irrefl 1000 h).elim, fun (h : zv_is (.inr 1000)) => (Nat.lt_irrefl 1000 h).elim, fun _ => rfl, fun _ => rfl, fun _ => rfl, fun _ => rfl, fun _ => rfl, fun _ => rfl, fun _ => rfl, fun _ => rfl, fun _ => rfl, fun _ => rfl, fun _ => rfl, fun _ => rfl, fun _ => rfl, fun _ => rfl, trivial⟩ ?_
            subst hw
            exact hret _ _ _ _ _ zd170_143 (by trivial) ⟨rfl, rfl, rfl⟩
          replace hc14 : x5 ≠ 1 := hc14
          rw [if_neg hc14] at h
          refine ⟨fun hc15 => ⟨_, rfl, ?_⟩, fun hc15 => ?_⟩
          · replace hc15 : x5 = 2 := hc15
            rw [if_pos hc15] at h
            refine zv_ald hB zd170_144 rfl rfl rfl ?_
            refine zv_getr hB zd170_145 rfl ?_
            refine zv_getf hB zd170_148 rfl rfl (fun _ _ => ?_)
            have hw := Option.some.inj h
            refine zv_wk hB (L' := [.inr 0, .inl x1, .inl x2, .inl x3, .inl x4, .inl x5]) (F' := [.inl f0, .inl f1, .inl r11.2.2.1, .inl f3, .inl r11.2.2.2.2.2.1, .inl f5, .inl r11.2.2.2.2.2.2.1, .inl f7, .inl r11.2.2.2.2.2.2.2.2.2.1, .inl f9, .inl r11.2.2.2.2.2.2.2.1, .inl f11, .inl r11.2.2.2.2.2.2.2.2.1, .inl f13, .inl r11.2.2.2.2.2.2.2.2.2.2.2.2.2.2.1, .inr 15, .inr 1000, .inr 1000, .inl r11.2.2.2.2.2.2.2.2.2.2.1, .inl r11.2.1, .inl r11.2.2.2.1, .inl r11.2.2.2.2.1, .inl f22, .inl r11.2.2.2.2.2.2.2.2.2.2.2.1, .inl f24, .inl r11.2.2.2.2.2.2.2.2.2.2.2.2.1, .inl f26, .inl r11.2.2.2.2.2.2.2.2.2.2.2.2.2.1, .inl r11.2.2.2.2.2.2.2.2.2.2.2.2.2.2.2.1, .inl r11.2.2.2.2.2.2.2.2.2.2.2.2.2.2.2.2.1, .inl r11.2.2.2.2.2.2.2.2.2.2.2.2.2.2.2.2.2.1, .inl r11.2.2.2.2.2.2.2.2.2.2.2.2.2.2.2.2.2.2.1]) ⟨fun _ => rfl, fun _ => rfl, fun _ => rfl, fun _ => rfl, fun _ => rfl, fun _ => rfl, trivial⟩ ⟨fun _ => rfl, fun _ => rfl, fun _ => rfl, fun _ => rfl, fun _ => rfl, fun _ => rfl, fun _ => rfl, fun _ => rfl, fun _ => rfl, fun _ => rfl, fun _ => rfl, fun _ => rfl, fun _ => rfl, fun _ => rfl, fun _ => rfl, fun _ => rfl, fun (h : zv_is (.inr 1000)) => (Nat.lt_irrefl 1000 h).elim, fun (h : zv_is (.inr 1000)) => (Nat.lt_irrefl 1000 h).elim, fun _ => rfl, fun _ => rfl, fun _ => rfl, fun _ => rfl, fun _ => rfl, fun _ => rfl, fun _ => rfl, fun _ => rfl, fun _ => rfl, fun _ => rfl, fun _ => rfl, fun _ => rfl, fun _ => rfl, fun _ => rfl, trivial⟩ ?_
            subst hw
            exact hret _ _ _ _ _ zd170_151 (by trivial) ⟨rfl, rfl, rfl⟩
          replace hc15 : x5 ≠ 2 := hc15
          rw [if_neg hc15] at h
          refine ⟨_, rfl, ?_⟩
          refine zv_ald hB zd170_152 rfl rfl rfl ?_
          refine zv_getr hB zd170_153 rfl ?_
          refine zv_getf hB zd170_156 rfl rfl (fun _ _ => ?_)
          have hw := Option.some.inj h
          refine zv_wk hB (L' := [.inr 0, .inl x1, .inl x2, .inl x3, .inl x4, .inl x5]) (F' := [.inl f0, .inl f1, .inl r11.2.2.1, .inl f3, .inl r11.2.2.2.2.2.1, .inl f5, .inl r11.2.2.2.2.2.2.1, .inl f7, .inl r11.2.2.2.2.2.2.2.2.2.1, .inl f9, .inl r11.2.2.2.2.2.2.2.1, .inl f11, .inl r11.2.2.2.2.2.2.2.2.1, .inl f13, .inl r11.2.2.2.2.2.2.2.2.2.2.2.2.2.2.1, .inr 15, .inr 1000, .inr 1000, .inl r11.2.2.2.2.2.2.2.2.2.2.1, .inl r11.2.1, .inl r11.2.2.2.1, .inl r11.2.2.2.2.1, .inl f22, .inl r11.2.2.2.2.2.2.2.2.2.2.2.1, .inl f24, .inl r11.2.2.2.2.2.2.2.2.2.2.2.2.1, .inl f26, .inl r11.2.2.2.2.2.2.2.2.2.2.2.2.2.1, .inl r11.2.2.2.2.2.2.2.2.2.2.2.2.2.2.2.1, .inl r11.2.2.2.2.2.2.2.2.2.2.2.2.2.2.2.2.1, .inl r11.2.2.2.2.2.2.2.2.2.2.2.2.2.2.2.2.2.1, .inl r11.2.2.2.2.2.2.2.2.2.2.2.2.2.2.2.2.2.2.1]) ⟨fun _ => rfl, fun _ => rfl, fun _ => rfl, fun _ => rfl, fun _ => rfl, fun _ => rfl, trivial⟩ ⟨fun _ => rfl, fun _ => rfl, fun _ => rfl, fun _ => rfl, fun _ => rfl, fun _ => rfl, fun _ => rfl, fun _ => rfl, fun _ => rfl, fun _ => rfl, fun _ => rfl, fun _ => rfl, fun _ => rfl, fun _ => rfl, fun _ => rfl, fun _ => rfl, fun (h : zv_is (.inr 1000)) => (Nat.lt_irrefl 1000 h).elim, fun (h : zv_is (.inr 1000)) => (Nat.lt_irrefl 1000 h).elim, fun _ => rfl, fun _ => rfl, fun _ => rfl, fun _ => rfl, fun _ => rfl, fun _ => rfl, fun _ => rfl, fun _ => rfl, fun _ => rfl, fun _ => rfl, fun _ => rfl, fun _ => rfl, fun _ => rfl, fun _ => rfl, trivial⟩ ?_
          subst hw
          exact hret _ _ _ _ _ zd170_159 (by trivial) ⟨rfl, rfl, rfl⟩
        · rw [if_pos hc12] at h
          refine zv_con hB zd170_97 rfl ?_
          have hw := Option.some.inj h
          refine zv_wk hB (L' := [.inr 0, .inl x1, .inl x2, .inl x3, .inl x4, .inl x5]) (F' := [.inl f0, .inl f1, .inl r11.2.2.1, .inl f3, .inl r11.2.2.2.2.2.1, .inl f5, .inl r11.2.2.2.2.2.2.1, .inl f7, .inl r11.2.2.2.2.2.2.2.2.2.1, .inl f9, .inl r11.2.2.2.2.2.2.2.1, .inl f11, .inl r11.2.2.2.2.2.2.2.2.1, .inl f13, .inl r11.2.2.2.2.2.2.2.2.2.2.2.2.2.2.1, .inr 15, .inr 1000, .inr 1000, .inl r11.2.2.2.2.2.2.2.2.2.2.1, .inl r11.2.1, .inl r11.2.2.2.1, .inl r11.2.2.2.2.1, .inl f22, .inl r11.2.2.2.2.2.2.2.2.2.2.2.1, .inl f24, .inl r11.2.2.2.2.2.2.2.2.2.2.2.2.1, .inl f26, .inl r11.2.2.2.2.2.2.2.2.2.2.2.2.2.1, .inl r11.2.2.2.2.2.2.2.2.2.2.2.2.2.2.2.1, .inl r11.2.2.2.2.2.2.2.2.2.2.2.2.2.2.2.2.1, .inl r11.2.2.2.2.2.2.2.2.2.2.2.2.2.2.2.2.2.1, .inl r11.2.2.2.2.2.2.2.2.2.2.2.2.2.2.2.2.2.2.1]) ⟨fun _ => rfl, fun _ => rfl, fun _ => rfl, fun _ => rfl, fun _ => rfl, fun _ => rfl, trivial⟩ ⟨fun _ => rfl, fun _ => rfl, fun _ => rfl, fun _ => rfl, fun _ => rfl, fun _ => rfl, fun _ => rfl, fun _ => rfl, fun _ => rfl, fun _ => rfl, fun _ => rfl, fun _ => rfl, fun _ => rfl, fun _ => rfl, fun _ => rfl, fun _ => rfl, fun (h : zv_is (.inr 1000)) => (Nat.lt_irrefl 1000 h).elim, fun (h : zv_is (.inr 1000)) => (Nat.lt_irrefl 1000 h).elim, fun _ => rfl, fun _ => rfl, fun _ => rfl, fun _ => rfl, fun _ => rfl, fun _ => rfl, fun _ => rfl, fun _ => rfl, fun _ => rfl, fun _ => rfl, fun _ => rfl, fun _ => rfl, fun _ => rfl, fun _ => rfl, trivial⟩ ?_
          subst hw
          exact hret _ _ _ _ _ zd170_99 (by trivial) ⟨rfl, rfl, rfl⟩
      · rw [if_pos hc6] at h
        refine zv_con hB zd170_31 rfl ?_
        have hw := Option.some.inj h
        subst hw
        exact hret _ _ _ _ _ zd170_32 (by trivial) ⟨rfl, rfl, rfl⟩
/-! View_keepShared (LStarTales$View;)V -/
-- names: 0 View('arg', 0), 1 View('arg', 1), 2 (0, 24)(0, 7, 5), 3 (0, 24)(1, 7, 5)
-- fields: f0 = 0.shown_, f1 = 1.shown_; arrays: g0 = 2, g1 = 3; out: [('f', 0), ('g', 0)]
abbrev zy_View_keepShared : zNL := (4, [(0, 7), (1, 7)], [(0, 7, 4, 0), (1, 7, 4, 1)], [(0, 7, 5, 2), (1, 7, 5, 3)], [(2, 0, 24, 0), (3, 0, 24, 1)])
theorem zyw_View_keepShared : zv_wf zy_View_keepShared = true := by decide +kernel
theorem zye_View_keepShared : zv_ek2 zy_View_keepShared = true := by decide +kernel
def zf_View_keepShared_l0_b (g1 : (Int → Int)) (rec : Int → (Int → Int) → Option ((Int → Int))) (x2 : Int) (g0 : (Int → Int)) : Option ((Int → Int)) := if x2 < 24 then (cond (zi_ix x2 24) (rec (zi_w (x2 + 1)) (zv_up g0 x2 (zi_and (g0 x2) (g1 x2)))) none) else (some g0)
def zf_View_keepShared_l0 (g1 : (Int → Int)) : Nat → Int → (Int → Int) → Option ((Int → Int))
  | 0, _, _ => none
  | n + 1, x2, g0 => zf_View_keepShared_l0_b g1 (zf_View_keepShared_l0 g1 n) x2 g0
def zf_View_keepShared (f0 : Int) (f1 : Int) (g0 : (Int → Int)) (g1 : (Int → Int)) : Option (Int × (Int → Int)) := (zf_View_keepShared_l0 g1 zi_fu 0 g0).bind fun q3 => (some ((zi_and f0 f1), q3))
theorem zd176_0 : decode zxm176.2.1 0 = .ok (.aload_n 0, 1) := by decide +kernel
theorem zd176_1 : decode zxm176.2.1 1 = .ok (.dup, 1) := by decide +kernel
theorem zd176_2 : decode zxm176.2.1 2 = .ok (.getfield 18, 3) := by decide +kernel
theorem zd176_5 : decode zxm176.2.1 5 = .ok (.aload_n 1, 1) := by decide +kernel
theorem zd176_6 : decode zxm176.2.1 6 = .ok (.getfield 18, 3) := by decide +kernel
theorem zd176_9 : decode zxm176.2.1 9 = .ok (.iand, 1) := by decide +kernel
theorem zd176_10 : decode zxm176.2.1 10 = .ok (.putfield 18, 3) := by decide +kernel
theorem zd176_13 : decode zxm176.2.1 13 = .ok (.iconst 0, 1) := by decide +kernel
theorem zd176_14 : decode zxm176.2.1 14 = .ok (.istore_n 2, 1) := by decide +kernel
theorem zd176_15 : decode zxm176.2.1 15 = .ok (.iload_n 2, 1) := by decide +kernel
theorem zd176_16 : decode zxm176.2.1 16 = .ok (.bipush 24, 2) := by decide +kernel
theorem zd176_18 : decode zxm176.2.1 18 = .ok (.if_icmp .ge 24, 3) := by decide +kernel
theorem zd176_21 : decode zxm176.2.1 21 = .ok (.aload_n 0, 1) := by decide +kernel
theorem zd176_22 : decode zxm176.2.1 22 = .ok (.getfield 21, 3) := by decide +kernel
theorem zd176_25 : decode zxm176.2.1 25 = .ok (.iload_n 2, 1) := by decide +kernel
theorem zd176_26 : decode zxm176.2.1 26 = .ok (.dup2, 1) := by decide +kernel
theorem zd176_27 : decode zxm176.2.1 27 = .ok (.iaload, 1) := by decide +kernel
theorem zd176_28 : decode zxm176.2.1 28 = .ok (.aload_n 1, 1) := by decide +kernel
theorem zd176_29 : decode zxm176.2.1 29 = .ok (.getfield 21, 3) := by decide +kernel
theorem zd176_32 : decode zxm176.2.1 32 = .ok (.iload_n 2, 1) := by decide +kernel
theorem zd176_33 : decode zxm176.2.1 33 = .ok (.iaload, 1) := by decide +kernel
theorem zd176_34 : decode zxm176.2.1 34 = .ok (.iand, 1) := by decide +kernel
theorem zd176_35 : decode zxm176.2.1 35 = .ok (.iastore, 1) := by decide +kernel
theorem zd176_36 : decode zxm176.2.1 36 = .ok (.iinc 2 1, 3) := by decide +kernel
theorem zd176_39 : decode zxm176.2.1 39 = .ok (.goto (-24), 3) := by decide +kernel
theorem zd176_42 : decode zxm176.2.1 42 = .ok (.return_, 1) := by decide +kernel
theorem zt_View_keepShared {f0 : Int} {f1 : Int} {g0 : (Int → Int)} {g1 : (Int → Int)} {o : Int × (Int → Int)} (h : zf_View_keepShared f0 f1 g0 g1 = some o) : zv_Fn z_TB z_cl z_KX zy_View_keepShared zxm176 (0, 0) [.inr 0, .inr 1] [.inl f0, .inl f1] [g0, g1] none [.inl o.1, .inl f1] [o.2, g1] := zv_meth (K := (z_KF11, z_KC11, z_KL11, z_KT11, [], [], [], none)) (FT := z_FT) (MT := z_MT) (n := 2) zxp176 (z_ks11 _ (fun _ h => List.mem_cons_of_mem _ h) _ _ _ _ (fun j r h _ => by cases h)) (fun _ _ => zs_KX_p) zyw_View_keepShared (fun va F G h => by obtain ⟨rfl, _⟩ := h; rfl) (fun va F G h => by obtain ⟨rfl, _⟩ := h; rfl) rfl fun good va F G hB hret hvret hP => by
  obtain ⟨rfl, rfl, rfl⟩ := hP
  have l0 : ∀ (n : Nat) (x2 : Int) (f0 : Int) (g0 : (Int → Int)) (q : (Int → Int)), zf_View_keepShared_l0 g1 n x2 g0 = some q → (good 42 [.inr 1000, .inr 1000, .inr 1000] [] [.inl f0, .inl f1] [q, g1]) → good 15 [.inr 0, .inr 1, .inl x2] [] [.inl f0, .inl f1] [g0, g1] := by
    intro n
    induction n with
    | zero => intro x2 f0 g0 q h; exact absurd (show none = some q from h) (fun h => by cases h)
    | succ n ih =>
      intro x2 f0 g0 q h hK
      replace h : zf_View_keepShared_l0_b g1 (zf_View_keepShared_l0 g1 n) x2 g0 = some q := h
      unfold zf_View_keepShared_l0_b at h
      refine zv_ild hB zd176_15 rfl rfl ?_
      refine zv_con hB zd176_16 rfl ?_
      refine zv_cge hB zd176_18 rfl (fun hc1 => ?_) (fun hc1 => ?_)
      · rw [if_neg (Int.not_lt.mpr hc1)] at h
        have hq := Option.some.inj h
        subst hq
        refine zv_wk hB (L' := [.inr 1000, .inr 1000, .inr 1000]) (F' := [.inl f0, .inl f1]) ⟨fun (h : zv_is (.inr 1000)) => (Nat.lt_irrefl 1000 h).elim, fun (h : zv_is (.inr 1000)) => (Nat.lt_irrefl 1000 h).elim, fun (h : zv_is (.inr 1000)) => (Nat.lt_irrefl 1000 h).elim, trivial⟩ ⟨fun _ => rfl, fun _ => rfl, trivial⟩ ?_
        exact hK
      · rw [if_pos hc1] at h
        refine zv_ald hB zd176_21 rfl rfl rfl ?_
        refine zv_getr hB zd176_22 rfl ?_
        refine zv_ild hB zd176_25 rfl rfl ?_
        refine zv_dup2 hB zd176_26 rfl rfl ?_
        obtain ⟨c2, h⟩ := zi_if h
        refine zv_iald hB zd176_27 rfl rfl (zi_ix_ok c2).1 (zi_ix_ok c2).2 (fun _ _ => ?_)
        refine zv_ald hB zd176_28 rfl rfl rfl ?_
        refine zv_getr hB zd176_29 rfl ?_
        refine zv_ild hB zd176_32 rfl rfl ?_
        refine zv_iald hB zd176_33 rfl rfl (zi_ix_ok c2).1 (zi_ix_ok c2).2 (fun _ _ => ?_)
        refine zv_andw hB zd176_34 ?_
        refine zv_iast hB zd176_35 rfl rfl (zi_ix_ok c2).1 (zi_ix_ok c2).2 ?_
        refine zv_iincw hB zd176_36 rfl rfl ?_
        refine zv_goto hB zd176_39 rfl ?_
        exact ih _ _ _ q h hK
  unfold zf_View_keepShared at h
  refine zv_ald hB zd176_0 rfl rfl rfl ?_
  refine zv_dup hB zd176_1 rfl ?_
  refine zv_getf hB zd176_2 rfl rfl (fun _ _ => ?_)
  refine zv_ald hB zd176_5 rfl rfl rfl ?_
  refine zv_getf hB zd176_6 rfl rfl (fun _ _ => ?_)
  refine zv_andw hB zd176_9 ?_
  refine zv_putf hB zd176_10 rfl rfl (fun h => by cases h) rfl ?_
  refine zv_con hB zd176_13 rfl ?_
  refine zv_ist hB zd176_14 rfl rfl rfl ?_
  obtain ⟨q3, hq3, h⟩ := zi_bind h
  refine l0 _ _ _ _ q3 hq3 ?_
  show good 42 [.inr 1000, .inr 1000, .inr 1000] [] [.inl (zi_and f0 f1), .inl f1] [q3, g1]
  have hw := Option.some.inj h
  subst hw
  exact hvret _ _ _ _ zd176_42 trivial ⟨rfl, rfl, rfl⟩
end
section
/-! Methods as functions, and that they do what these do. -/
/-! X_both (III)I -/
-- names: 0 StarTales('arg', 0), 1 View(0, 0, 12), 2 Sky(0, 0, 0), 3 Law(0, 0, 7), 4 (0, 24)(1, 7, 8), 5 (0, 13)(3, 4, 12), 6 (0, 24)(2, 1, 1), 7 (0, 24)(2, 1, 2), 8 (0, 24)(2, 1, 3), 9 (0, 14)(3, 4, 3), 10 (0, 14)(3, 4, 5), 11 (0, 14)(3, 4, 6), 12 (0, 200)(3, 4, 0), 13 (0, 40)(3, 4, 13), 14 (0, 200)(3, 4, 1), 15 (0, 24)(1, 7, 5), 16 (0, 24)(1, 7, 9), 17 View(0, 0, 13), 18 (0, 24)(17, 7, 8), 19 (0, 24)(17, 7, 5), 20 (0, 24)(17, 7, 9), 21 Tale(0, 0, 10), 22 Matcher(0, 0, 14), 23 (0, 72)(22, 8, 0), 24 (0, 8)(21, 6, 2), 25 (0, 24)(22, 8, 1), 26 (0, 8)(22, 8, 2)
-- fields: f0 = 0.ruling_, f1 = 1.sky_, f2 = 1.law_, f3 = 1.starsAsked_, f4 = 1.x_, f5 = 1.y_, f6 = 2.hour_, f7 = 2.night_, f8 = 1.shown_, f9 = 2.told_, f10 = 2.sightColumns_, f11 = 2.sightRows_, f12 = 2.clouds_, f13 = 3.tellsSeen_, f14 = 1.starsHold_, f15 = 3.clauses_, f16 = 3.answer_, f17 = 3.seenByPlace_, f18 = 3.tellsLines_, f19 = 3.linesByPlace_, f20 = 17.sky_, f21 = 17.law_, f22 = 17.starsAsked_, f23 = 17.x_, f24 = 17.y_, f25 = 17.shown_, f26 = 17.starsHold_, f27 = 0.telling_, f28 = 21.lines_, f29 = 22.tale_, f30 = 22.joined_, f31 = 22.deadEnds_, f32 = 21.names_; arrays: g0 = 4, g1 = 5, g2 = 6, g3 = 7, g4 = 8, g5 = 9, g6 = 10, g7 = 11, g8 = 12, g9 = 13, g10 = 14, g11 = 15, g12 = 16, g13 = 18, g14 = 19, g15 = 20, g16 = 23, g17 = 24, g18 = 25, g19 = 26; out: [('ret', None), ('f', 3), ('f', 4), ('f', 5), ('f', 8), ('f', 14), ('f', 16), ('f', 22), ('f', 23), ('f', 24), ('f', 25), ('f', 26), ('f', 31), ('g', 0), ('g', 1), ('g', 9), ('g', 11), ('g', 12), ('g', 13), ('g', 14), ('g', 15), ('g', 16), ('g', 18), ('g', 19)]
abbrev zy_X_both : zNL := (27, [(0, 0), (1, 7), (2, 1), (3, 4), (17, 7), (21, 6), (22, 8)], [(0, 0, 7, 0), (1, 7, 0, 1), (1, 7, 1, 2), (1, 7, 6, 3), (1, 7, 2, 4), (1, 7, 3, 5), (2, 1, 6, 6), (2, 1, 7, 7), (1, 7, 4, 8), (2, 1, 0, 9), (2, 1, 9, 10), (2, 1, 10, 11), (2, 1, 8, 12), (3, 4, 8, 13), (1, 7, 7, 14), (3, 4, 7, 15), (3, 4, 14, 16), (3, 4, 10, 17), (3, 4, 9, 18), (3, 4, 11, 19), (17, 7, 0, 20), (17, 7, 1, 21), (17, 7, 6, 22), (17, 7, 2, 23), (17, 7, 3, 24), (17, 7, 4, 25), (17, 7, 7, 26), (0, 0, 10, 27), (21, 6, 0, 28), (22, 8, 3, 29), (22, 8, 4, 30), (22, 8, 6, 31), (21, 6, 1, 32)], [(0, 0, 12, 1), (0, 0, 0, 2), (1, 7, 8, 4), (3, 4, 12, 5), (2, 1, 1, 6), (2, 1, 2, 7), (2, 1, 3, 8), (3, 4, 3, 9), (3, 4, 5, 10), (3, 4, 6, 11), (3, 4, 0, 12), (3, 4, 13, 13), (3, 4, 1, 14), (1, 7, 5, 15), (1, 7, 9, 16), (0, 0, 13, 17), (17, 7, 8, 18), (17, 7, 5, 19), (17, 7, 9, 20), (0, 0, 14, 22), (22, 8, 0, 23), (21, 6, 2, 24), (22, 8, 1, 25), (22, 8, 2, 26)], [(4, 0, 24, 0), (5, 0, 13, 1), (6, 0, 24, 2), (7, 0, 24, 3), (8, 0, 24, 4), (9, 0, 14, 5), (10, 0, 14, 6), (11, 0, 14, 7), (12, 0, 200, 8), (13, 0, 40, 9), (14, 0, 200, 10), (15, 0, 24, 11), (16, 0, 24, 12), (18, 0, 24, 13), (19, 0, 24, 14), (20, 0, 24, 15), (23, 0, 72, 16), (24, 0, 8, 17), (25, 0, 24, 18), (26, 0, 8, 19)])
theorem zyw_X_both : zv_wf zy_X_both = true := by decide +kernel
theorem zye_X_both : zv_ek2 zy_X_both = true := by decide +kernel
def zf_X_both (x1 : Int) (x2 : Int) (x3 : Int) (f3 : Int) (f4 : Int) (f5 : Int) (f6 : Int) (f7 : Int) (f8 : Int) (f9 : Int) (f10 : Int) (f11 : Int) (f12 : Int) (f13 : Int) (f14 : Int) (f15 : Int) (f16 : Int) (f17 : Int) (f18 : Int) (f19 : Int) (f22 : Int) (f23 : Int) (f24 : Int) (f25 : Int) (f26 : Int) (f28 : Int) (f31 : Int) (f32 : Int) (g0 : (Int → Int)) (g1 : (Int → Int)) (g2 : (Int → Int)) (g3 : (Int → Int)) (g4 : (Int → Int)) (g5 : (Int → Int)) (g6 : (Int → Int)) (g7 : (Int → Int)) (g8 : (Int → Int)) (g9 : (Int → Int)) (g10 : (Int → Int)) (g11 : (Int → Int)) (g12 : (Int → Int)) (g13 : (Int → Int)) (g14 : (Int → Int)) (g15 : (Int → Int)) (g16 : (Int → Int)) (g17 : (Int → Int)) (g18 : (Int → Int)) (g19 : (Int → Int)) : Option (Int × Int × Int × Int × Int × Int × Int × Int × Int × Int × Int × Int × Int × (Int → Int) × (Int → Int) × (Int → Int) × (Int → Int) × (Int → Int) × (Int → Int) × (Int → Int) × (Int → Int) × (Int → Int) × (Int → Int) × (Int → Int)) := (zf_X_isWithin x1 0 287).bind fun r1 => (if r1 = 0 then (some ((-1), f3, f4, f5, f8, f14, f16, f22, f23, f24, f25, f26, f31, g0, g1, g9, g11, g12, g13, g14, g15, g16, g18, g19)) else ((zf_X_isWithin x2 0 287).bind fun r4 => (if r4 = 0 then (some ((-1), f3, f4, f5, f8, f14, f16, f22, f23, f24, f25, f26, f31, g0, g1, g9, g11, g12, g13, g14, g15, g16, g18, g19)) else ((zf_X_isWithin x3 0 2).bind fun r7 => (if r7 = 0 then (some ((-1), f3, f4, f5, f8, f14, f16, f22, f23, f24, f25, f26, f31, g0, g1, g9, g11, g12, g13, g14, g15, g16, g18, g19)) else (if x3 = 0 then (if f28 = 0 then (some ((-1), f3, f4, f5, f8, f14, f16, f22, f23, f24, f25, f26, f31, g0, g1, g9, g11, g12, g13, g14, g15, g16, g18, g19)) else ((zf_X_columnOf x1).bind fun r23 => ((zf_X_rowOf x1).bind fun r24 => ((zf_X_lookAndDraw r23 r24 f3 f4 f5 f6 f7 f8 f9 f10 f11 f12 f13 f14 f15 f16 f17 f18 f19 g0 g1 g2 g3 g4 g5 g6 g7 g8 g9 g10 g11 g12).bind fun r25 => ((zf_X_columnOf x2).bind fun r26 => ((zf_X_rowOf x2).bind fun r27 => ((zf_X_lookAndDraw r26 r27 f22 f23 f24 f6 f7 f25 f9 f10 f11 f12 f13 f26 f15 r25.2.2.2.2.2.1 f17 f18 f19 g13 r25.2.2.2.2.2.2.2.1 g2 g3 g4 g5 g6 g7 g8 r25.2.2.2.2.2.2.2.2.1 g10 g14 g15).bind fun r28 => ((zf_View_keepShared r25.2.2.2.1 r28.2.2.2.1 r25.2.2.2.2.2.2.2.2.2.1 r28.2.2.2.2.2.2.2.2.2.1).bind fun r29 => (if x3 = 0 then ((zf_Matcher_countWays_24 r29.1 10000 f31 f32 r29.2 g16 g17 g18 g19).bind fun r31 => (some (r31.1, r25.1, r25.2.1, r25.2.2.1, r29.1, r25.2.2.2.2.1, r28.2.2.2.2.2.1, r28.1, r28.2.1, r28.2.2.1, r28.2.2.2.1, r28.2.2.2.2.1, r31.2.1, r25.2.2.2.2.2.2.1, r28.2.2.2.2.2.2.2.1, r28.2.2.2.2.2.2.2.2.1, r29.2, r25.2.2.2.2.2.2.2.2.2.2, r28.2.2.2.2.2.2.1, r28.2.2.2.2.2.2.2.2.2.1, r28.2.2.2.2.2.2.2.2.2.2, r31.2.2.1, r31.2.2.2.1, r31.2.2.2.2))) else ((zf_View_countLines r29.2).bind fun r33 => (some (r33, r25.1, r25.2.1, r25.2.2.1, r29.1, r25.2.2.2.2.1, r28.2.2.2.2.2.1, r28.1, r28.2.1, r28.2.2.1, r28.2.2.2.1, r28.2.2.2.2.1, f31, r25.2.2.2.2.2.2.1, r28.2.2.2.2.2.2.2.1, r28.2.2.2.2.2.2.2.2.1, r29.2, r25.2.2.2.2.2.2.2.2.2.2, r28.2.2.2.2.2.2.1, r28.2.2.2.2.2.2.2.2.2.1, r28.2.2.2.2.2.2.2.2.2.2, g16, g18, g19)))))))))))) else ((zf_X_columnOf x1).bind fun r12 => ((zf_X_rowOf x1).bind fun r13 => ((zf_X_lookAndDraw r12 r13 f3 f4 f5 f6 f7 f8 f9 f10 f11 f12 f13 f14 f15 f16 f17 f18 f19 g0 g1 g2 g3 g4 g5 g6 g7 g8 g9 g10 g11 g12).bind fun r14 => ((zf_X_columnOf x2).bind fun r15 => ((zf_X_rowOf x2).bind fun r16 => ((zf_X_lookAndDraw r15 r16 f22 f23 f24 f6 f7 f25 f9 f10 f11 f12 f13 f26 f15 r14.2.2.2.2.2.1 f17 f18 f19 g13 r14.2.2.2.2.2.2.2.1 g2 g3 g4 g5 g6 g7 g8 r14.2.2.2.2.2.2.2.2.1 g10 g14 g15).bind fun r17 => ((zf_View_keepShared r14.2.2.2.1 r17.2.2.2.1 r14.2.2.2.2.2.2.2.2.2.1 r17.2.2.2.2.2.2.2.2.2.1).bind fun r18 => (if x3 = 1 then (some (r18.1, r14.1, r14.2.1, r14.2.2.1, r18.1, r14.2.2.2.2.1, r17.2.2.2.2.2.1, r17.1, r17.2.1, r17.2.2.1, r17.2.2.2.1, r17.2.2.2.2.1, f31, r14.2.2.2.2.2.2.1, r17.2.2.2.2.2.2.2.1, r17.2.2.2.2.2.2.2.2.1, r18.2, r14.2.2.2.2.2.2.2.2.2.2, r17.2.2.2.2.2.2.1, r17.2.2.2.2.2.2.2.2.2.1, r17.2.2.2.2.2.2.2.2.2.2, g16, g18, g19)) else ((zf_View_countLines r18.2).bind fun r21 => (some (r21, r14.1, r14.2.1, r14.2.2.1, r18.1, r14.2.2.2.2.1, r17.2.2.2.2.2.1, r17.1, r17.2.1, r17.2.2.1, r17.2.2.2.1, r17.2.2.2.2.1, f31, r14.2.2.2.2.2.2.1, r17.2.2.2.2.2.2.2.1, r17.2.2.2.2.2.2.2.2.1, r18.2, r14.2.2.2.2.2.2.2.2.2.2, r17.2.2.2.2.2.2.1, r17.2.2.2.2.2.2.2.2.2.1, r17.2.2.2.2.2.2.2.2.2.2, g16, g18, g19)))))))))))))))))
theorem zd175_0 : decode zxm175.2.1 0 = .ok (.iload_n 1, 1) := by decide +kernel
theorem zd175_1 : decode zxm175.2.1 1 = .ok (.iconst 0, 1) := by decide +kernel
theorem zd175_2 : decode zxm175.2.1 2 = .ok (.sipush 287, 3) := by decide +kernel
theorem zd175_5 : decode zxm175.2.1 5 = .ok (.invokestatic 126, 3) := by decide +kernel
theorem zd175_8 : decode zxm175.2.1 8 = .ok (.ifCond .eq 27, 3) := by decide +kernel
theorem zd175_11 : decode zxm175.2.1 11 = .ok (.iload_n 2, 1) := by decide +kernel
theorem zd175_12 : decode zxm175.2.1 12 = .ok (.iconst 0, 1) := by decide +kernel
theorem zd175_13 : decode zxm175.2.1 13 = .ok (.sipush 287, 3) := by decide +kernel
theorem zd175_16 : decode zxm175.2.1 16 = .ok (.invokestatic 126, 3) := by decide +kernel
theorem zd175_19 : decode zxm175.2.1 19 = .ok (.ifCond .eq 16, 3) := by decide +kernel
theorem zd175_22 : decode zxm175.2.1 22 = .ok (.iload_n 3, 1) := by decide +kernel
theorem zd175_23 : decode zxm175.2.1 23 = .ok (.iconst 0, 1) := by decide +kernel
theorem zd175_24 : decode zxm175.2.1 24 = .ok (.iconst 2, 1) := by decide +kernel
theorem zd175_25 : decode zxm175.2.1 25 = .ok (.invokestatic 126, 3) := by decide +kernel
theorem zd175_28 : decode zxm175.2.1 28 = .ok (.ifCond .eq 7, 3) := by decide +kernel
theorem zd175_31 : decode zxm175.2.1 31 = .ok (.iconst 1, 1) := by decide +kernel
theorem zd175_32 : decode zxm175.2.1 32 = .ok (.goto 4, 3) := by decide +kernel
theorem zd175_35 : decode zxm175.2.1 35 = .ok (.iconst 0, 1) := by decide +kernel
theorem zd175_36 : decode zxm175.2.1 36 = .ok (.istore 4, 2) := by decide +kernel
theorem zd175_38 : decode zxm175.2.1 38 = .ok (.iload 4, 2) := by decide +kernel
theorem zd175_40 : decode zxm175.2.1 40 = .ok (.ifCond .eq 17, 3) := by decide +kernel
theorem zd175_43 : decode zxm175.2.1 43 = .ok (.iload_n 3, 1) := by decide +kernel
theorem zd175_44 : decode zxm175.2.1 44 = .ok (.ifCond .ne 15, 3) := by decide +kernel
theorem zd175_47 : decode zxm175.2.1 47 = .ok (.aload_n 0, 1) := by decide +kernel
theorem zd175_48 : decode zxm175.2.1 48 = .ok (.getfield 69, 3) := by decide +kernel
theorem zd175_51 : decode zxm175.2.1 51 = .ok (.getfield 253, 3) := by decide +kernel
theorem zd175_54 : decode zxm175.2.1 54 = .ok (.ifCond .ne 5, 3) := by decide +kernel
theorem zd175_57 : decode zxm175.2.1 57 = .ok (.iconst (-1), 1) := by decide +kernel
theorem zd175_58 : decode zxm175.2.1 58 = .ok (.ireturn, 1) := by decide +kernel
theorem zd175_59 : decode zxm175.2.1 59 = .ok (.aload_n 0, 1) := by decide +kernel
theorem zd175_60 : decode zxm175.2.1 60 = .ok (.aload_n 0, 1) := by decide +kernel
theorem zd175_61 : decode zxm175.2.1 61 = .ok (.getfield 81, 3) := by decide +kernel
theorem zd175_64 : decode zxm175.2.1 64 = .ok (.iload_n 1, 1) := by decide +kernel
theorem zd175_65 : decode zxm175.2.1 65 = .ok (.invokestatic 293, 3) := by decide +kernel
theorem zd175_68 : decode zxm175.2.1 68 = .ok (.iload_n 1, 1) := by decide +kernel
theorem zd175_69 : decode zxm175.2.1 69 = .ok (.invokestatic 296, 3) := by decide +kernel
theorem zd175_72 : decode zxm175.2.1 72 = .ok (.invokevirtual 221, 3) := by decide +kernel
theorem zd175_75 : decode zxm175.2.1 75 = .ok (.aload_n 0, 1) := by decide +kernel
theorem zd175_76 : decode zxm175.2.1 76 = .ok (.aload_n 0, 1) := by decide +kernel
theorem zd175_77 : decode zxm175.2.1 77 = .ok (.getfield 85, 3) := by decide +kernel
theorem zd175_80 : decode zxm175.2.1 80 = .ok (.iload_n 2, 1) := by decide +kernel
theorem zd175_81 : decode zxm175.2.1 81 = .ok (.invokestatic 293, 3) := by decide +kernel
theorem zd175_84 : decode zxm175.2.1 84 = .ok (.iload_n 2, 1) := by decide +kernel
theorem zd175_85 : decode zxm175.2.1 85 = .ok (.invokestatic 296, 3) := by decide +kernel
theorem zd175_88 : decode zxm175.2.1 88 = .ok (.invokevirtual 221, 3) := by decide +kernel
theorem zd175_91 : decode zxm175.2.1 91 = .ok (.aload_n 0, 1) := by decide +kernel
theorem zd175_92 : decode zxm175.2.1 92 = .ok (.getfield 81, 3) := by decide +kernel
theorem zd175_95 : decode zxm175.2.1 95 = .ok (.aload_n 0, 1) := by decide +kernel
theorem zd175_96 : decode zxm175.2.1 96 = .ok (.getfield 85, 3) := by decide +kernel
theorem zd175_99 : decode zxm175.2.1 99 = .ok (.invokevirtual 376, 3) := by decide +kernel
theorem zd175_102 : decode zxm175.2.1 102 = .ok (.iload_n 3, 1) := by decide +kernel
theorem zd175_103 : decode zxm175.2.1 103 = .ok (.lookupswitch 62 #[(0, 25), (1, 54)], 25) := by decide +kernel
theorem zd175_128 : decode zxm175.2.1 128 = .ok (.aload_n 0, 1) := by decide +kernel
theorem zd175_129 : decode zxm175.2.1 129 = .ok (.getfield 96, 3) := by decide +kernel
theorem zd175_132 : decode zxm175.2.1 132 = .ok (.aload_n 0, 1) := by decide +kernel
theorem zd175_133 : decode zxm175.2.1 133 = .ok (.getfield 69, 3) := by decide +kernel
theorem zd175_136 : decode zxm175.2.1 136 = .ok (.aload_n 0, 1) := by decide +kernel
theorem zd175_137 : decode zxm175.2.1 137 = .ok (.getfield 81, 3) := by decide +kernel
theorem zd175_140 : decode zxm175.2.1 140 = .ok (.getfield 218, 3) := by decide +kernel
theorem zd175_143 : decode zxm175.2.1 143 = .ok (.aload_n 0, 1) := by decide +kernel
theorem zd175_144 : decode zxm175.2.1 144 = .ok (.getfield 81, 3) := by decide +kernel
theorem zd175_147 : decode zxm175.2.1 147 = .ok (.getfield 90, 3) := by decide +kernel
theorem zd175_150 : decode zxm175.2.1 150 = .ok (.sipush 10000, 3) := by decide +kernel
theorem zd175_153 : decode zxm175.2.1 153 = .ok (.invokevirtual 256, 3) := by decide +kernel
theorem zd175_156 : decode zxm175.2.1 156 = .ok (.ireturn, 1) := by decide +kernel
theorem zd175_157 : decode zxm175.2.1 157 = .ok (.aload_n 0, 1) := by decide +kernel
theorem zd175_158 : decode zxm175.2.1 158 = .ok (.getfield 81, 3) := by decide +kernel
theorem zd175_161 : decode zxm175.2.1 161 = .ok (.getfield 218, 3) := by decide +kernel
theorem zd175_164 : decode zxm175.2.1 164 = .ok (.ireturn, 1) := by decide +kernel
theorem zd175_165 : decode zxm175.2.1 165 = .ok (.aload_n 0, 1) := by decide +kernel
theorem zd175_166 : decode zxm175.2.1 166 = .ok (.getfield 81, 3) := by decide +kernel
theorem zd175_169 : decode zxm175.2.1 169 = .ok (.invokevirtual 225, 3) := by decide +kernel
theorem zd175_172 : decode zxm175.2.1 172 = .ok (.ireturn, 1) := by decide +kernel
theorem zt_X_both {x1 : Int} {x2 : Int} {x3 : Int} {f3 : Int} {f4 : Int} {f5 : Int} {f6 : Int} {f7 : Int} {f8 : Int} {f9 : Int} {f10 : Int} {f11 : Int} {f12 : Int} {f13 : Int} {f14 : Int} {f15 : Int} {f16 : Int} {f17 : Int} {f18 : Int} {f19 : Int} {f22 : Int} {f23 : Int} {f24 : Int} {f25 : Int} {f26 : Int} {f28 : Int} {f31 : Int} {f32 : Int} {g0 : (Int → Int)} {g1 : (Int → Int)} {g2 : (Int → Int)} {g3 : (Int → Int)} {g4 : (Int → Int)} {g5 : (Int → Int)} {g6 : (Int → Int)} {g7 : (Int → Int)} {g8 : (Int → Int)} {g9 : (Int → Int)} {g10 : (Int → Int)} {g11 : (Int → Int)} {g12 : (Int → Int)} {g13 : (Int → Int)} {g14 : (Int → Int)} {g15 : (Int → Int)} {g16 : (Int → Int)} {g17 : (Int → Int)} {g18 : (Int → Int)} {g19 : (Int → Int)} {o : Int × Int × Int × Int × Int × Int × Int × Int × Int × Int × Int × Int × Int × (Int → Int) × (Int → Int) × (Int → Int) × (Int → Int) × (Int → Int) × (Int → Int) × (Int → Int) × (Int → Int) × (Int → Int) × (Int → Int) × (Int → Int)} (h : zf_X_both x1 x2 x3 f3 f4 f5 f6 f7 f8 f9 f10 f11 f12 f13 f14 f15 f16 f17 f18 f19 f22 f23 f24 f25 f26 f28 f31 f32 g0 g1 g2 g3 g4 g5 g6 g7 g8 g9 g10 g11 g12 g13 g14 g15 g16 g17 g18 g19 = some o) : zv_Fn z_TB z_cl z_KX zy_X_both zxm175 (13, 780) [.inr 0, .inl x1, .inl x2, .inl x3] [.inr 3, .inr 1000, .inr 1000, .inl f3, .inl f4, .inl f5, .inl f6, .inl f7, .inl f8, .inl f9, .inl f10, .inl f11, .inl f12, .inl f13, .inl f14, .inl f15, .inl f16, .inl f17, .inl f18, .inl f19, .inr 1000, .inr 1000, .inl f22, .inl f23, .inl f24, .inl f25, .inl f26, .inr 21, .inl f28, .inr 1000, .inr 1000, .inl f31, .inl f32] [g0, g1, g2, g3, g4, g5, g6, g7, g8, g9, g10, g11, g12, g13, g14, g15, g16, g17, g18, g19] (some o.1) [.inr 3, .inr 1000, .inr 1000, .inl o.2.1, .inl o.2.2.1, .inl o.2.2.2.1, .inl f6, .inl f7, .inl o.2.2.2.2.1, .inl f9, .inl f10, .inl f11, .inl f12, .inl f13, .inl o.2.2.2.2.2.1, .inl f15, .inl o.2.2.2.2.2.2.1, .inl f17, .inl f18, .inl f19, .inr 1000, .inr 1000, .inl o.2.2.2.2.2.2.2.1, .inl o.2.2.2.2.2.2.2.2.1, .inl o.2.2.2.2.2.2.2.2.2.1, .inl o.2.2.2.2.2.2.2.2.2.2.1, .inl o.2.2.2.2.2.2.2.2.2.2.2.1, .inr 21, .inl f28, .inr 1000, .inr 1000, .inl o.2.2.2.2.2.2.2.2.2.2.2.2.1, .inl f32] [o.2.2.2.2.2.2.2.2.2.2.2.2.2.1, o.2.2.2.2.2.2.2.2.2.2.2.2.2.2.1, g2, g3, g4, g5, g6, g7, g8, o.2.2.2.2.2.2.2.2.2.2.2.2.2.2.2.1, g10, o.2.2.2.2.2.2.2.2.2.2.2.2.2.2.2.2.1, o.2.2.2.2.2.2.2.2.2.2.2.2.2.2.2.2.2.1, o.2.2.2.2.2.2.2.2.2.2.2.2.2.2.2.2.2.2.1, o.2.2.2.2.2.2.2.2.2.2.2.2.2.2.2.2.2.2.2.1, o.2.2.2.2.2.2.2.2.2.2.2.2.2.2.2.2.2.2.2.2.1, o.2.2.2.2.2.2.2.2.2.2.2.2.2.2.2.2.2.2.2.2.2.1, g17, o.2.2.2.2.2.2.2.2.2.2.2.2.2.2.2.2.2.2.2.2.2.2.1, o.2.2.2.2.2.2.2.2.2.2.2.2.2.2.2.2.2.2.2.2.2.2.2] := zv_meth (K := (z_KF0, z_KC0, z_KL0, z_KT0, [], [], [], none)) (FT := z_FT) (MT := z_MT) (n := 4) zxp175 (z_ks0 _ (fun _ h => List.mem_cons_of_mem _ h) _ _ _ _ (fun j r h _ => by cases h)) (fun _ _ => zs_KX_p) zyw_X_both (fun va F G h => by obtain ⟨rfl, _⟩ := h; rfl) (fun va F G h => by obtain ⟨rfl, _⟩ := h; rfl) rfl fun good va F G hB hret hvret hP => by
  obtain ⟨rfl, rfl, rfl⟩ := hP
  unfold zf_X_both at h
  refine zv_ild hB zd175_0 rfl rfl ?_
  refine zv_con hB zd175_1 rfl ?_
  refine zv_con hB zd175_2 rfl ?_
  obtain ⟨r1, hr1, h⟩ := zi_bind h
  refine zv_cs hB (zv_emq (va2 := [.inl x1, .inl 0, .inl 287]) (F := [.inr 3, .inr 1000, .inr 1000, .inl f3, .inl f4, .inl f5, .inl f6, .inl f7, .inl f8, .inl f9, .inl f10, .inl f11, .inl f12, .inl f13, .inl f14, .inl f15, .inl f16, .inl f17, .inl f18, .inl f19, .inr 1000, .inr 1000, .inl f22, .inl f23, .inl f24, .inl f25, .inl f26, .inr 21, .inl f28, .inr 1000, .inr 1000, .inl f31, .inl f32]) (F' := [.inr 3, .inr 1000, .inr 1000, .inl f3, .inl f4, .inl f5, .inl f6, .inl f7, .inl f8, .inl f9, .inl f10, .inl f11, .inl f12, .inl f13, .inl f14, .inl f15, .inl f16, .inl f17, .inl f18, .inl f19, .inr 1000, .inr 1000, .inl f22, .inl f23, .inl f24, .inl f25, .inl f26, .inr 21, .inl f28, .inr 1000, .inr 1000, .inl f31, .inl f32]) (G := [g0, g1, g2, g3, g4, g5, g6, g7, g8, g9, g10, g11, g12, g13, g14, g15, g16, g17, g18, g19]) (G' := [g0, g1, g2, g3, g4, g5, g6, g7, g8, g9, g10, g11, g12, g13, g14, g15, g16, g17, g18, g19]) (ρ := []) (φ := []) (ψ := []) [none, none, none, none, none, none, none, none, none, none, none, none, none, none, none, none, none, none, none, none, none, none, none, none, none, none, none, none, none, none, none, none, none] [none, none, none, none, none, none, none, none, none, none, none, none, none, none, none, none, none, none, none, none] zyw_X_isWithin zyw_X_both zye_X_both (by decide +kernel) (zt_X_isWithin hr1) trivial trivial rfl rfl rfl rfl rfl rfl rfl) zd175_5 zxt15 rfl (by decide) (by decide) rfl ?_
  refine zv_zeq hB zd175_8 rfl (fun hc2 => ?_) (fun hc2 => ?_)
  · rw [if_pos hc2] at h
    refine zv_con hB zd175_35 rfl ?_
    refine zv_ist hB zd175_36 rfl rfl rfl ?_
    refine zv_ild hB zd175_38 rfl rfl ?_
    refine zv_zeq hB zd175_40 rfl (fun _ => ?_) (fun hc => absurd hc (by decide))
    refine zv_con hB zd175_57 rfl ?_
    have hw := Option.some.inj h
    subst hw
    exact hret _ _ _ _ _ zd175_58 (by trivial) ⟨rfl, rfl, rfl⟩
  · rw [if_neg hc2] at h
    refine zv_ild hB zd175_11 rfl rfl ?_
    refine zv_con hB zd175_12 rfl ?_
    refine zv_con hB zd175_13 rfl ?_
    obtain ⟨r4, hr4, h⟩ := zi_bind h
    refine zv_cs hB (zv_emq (va2 := [.inl x2, .inl 0, .inl 287]) (F := [.inr 3, .inr 1000, .inr 1000, .inl f3, .inl f4, .inl f5, .inl f6, .inl f7, .inl f8, .inl f9, .inl f10, .inl f11, .inl f12, .inl f13, .inl f14, .inl f15, .inl f16, .inl f17, .inl f18, .inl f19, .inr 1000, .inr 1000, .inl f22, .inl f23, .inl f24, .inl f25, .inl f26, .inr 21, .inl f28, .inr 1000, .inr 1000, .inl f31, .inl f32]) (F' := [.inr 3, .inr 1000, .inr 1000, .inl f3, .inl f4, .inl f5, .inl f6, .inl f7, .inl f8, .inl f9, .inl f10, .inl f11, .inl f12, .inl f13, .inl f14, .inl f15, .inl f16, .inl f17, .inl f18, .inl f19, .inr 1000, .inr 1000, .inl f22, .inl f23, .inl f24, .inl f25, .inl f26, .inr 21, .inl f28, .inr 1000, .inr 1000, .inl f31, .inl f32]) (G := [g0, g1, g2, g3, g4, g5, g6, g7, g8, g9, g10, g11, g12, g13, g14, g15, g16, g17, g18, g19]) (G' := [g0, g1, g2, g3, g4, g5, g6, g7, g8, g9, g10, g11, g12, g13, g14, g15, g16, g17, g18, g19]) (ρ := []) (φ := []) (ψ := []) [none, none, none, none, none, none, none, none, none, none, none, none, none, none, none, none, none, none, none, none, none, none, none, none, none, none, none, none, none, none, none, none, none] [none, none, none, none, none, none, none, none, none, none, none, none, none, none, none, none, none, none, none, none] zyw_X_isWithin zyw_X_both zye_X_both (by decide +kernel) (zt_X_isWithin hr4) trivial trivial rfl rfl rfl rfl rfl rfl rfl) zd175_16 zxt15 rfl (by decide) (by decide) rfl ?_
    refine zv_zeq hB zd175_19 rfl (fun hc5 => ?_) (fun hc5 => ?_)
    · rw [if_pos hc5] at h
      refine zv_con hB zd175_35 rfl ?_
      refine zv_ist hB zd175_36 rfl rfl rfl ?_
      refine zv_ild hB zd175_38 rfl rfl ?_
      refine zv_zeq hB zd175_40 rfl (fun _ => ?_) (fun hc => absurd hc (by decide))
      refine zv_con hB zd175_57 rfl ?_
      have hw := Option.some.inj h
      subst hw
      exact hret _ _ _ _ _ zd175_58 (by trivial) ⟨rfl, rfl, rfl⟩
    · rw [if_neg hc5] at h
      refine zv_ild hB zd175_22 rfl rfl ?_
      refine zv_con hB zd175_23 rfl ?_
      refine zv_con hB zd175_24 rfl ?_
      obtain ⟨r7, hr7, h⟩ := zi_bind h
      refine zv_cs hB (zv_emq (va2 := [.inl x3, .inl 0, .inl 2]) (F := [.inr 3, .inr 1000, .inr 1000, .inl f3, .inl f4, .inl f5, .inl f6, .inl f7, .inl f8, .inl f9, .inl f10, .inl f11, .inl f12, .inl f13, .inl f14, .inl f15, .inl f16, .inl f17, .inl f18, .inl f19, .inr 1000, .inr 1000, .inl f22, .inl f23, .inl f24, .inl f25, .inl f26, .inr 21, .inl f28, .inr 1000, .inr 1000, .inl f31, .inl f32]) (F' := [.inr 3, .inr 1000, .inr 1000, .inl f3, .inl f4, .inl f5, .inl f6, .inl f7, .inl f8, .inl f9, .inl f10, .inl f11, .inl f12, .inl f13, .inl f14, .inl f15, .inl f16, .inl f17, .inl f18, .inl f19, .inr 1000, .inr 1000, .inl f22, .inl f23, .inl f24, .inl f25, .inl f26, .inr 21, .inl f28, .inr 1000, .inr 1000, .inl f31, .inl f32]) (G := [g0, g1, g2, g3, g4, g5, g6, g7, g8, g9, g10, g11, g12, g13, g14, g15, g16, g17, g18, g19]) (G' := [g0, g1, g2, g3, g4, g5, g6, g7, g8, g9, g10, g11, g12, g13, g14, g15, g16, g17, g18, g19]) (ρ := []) (φ := []) (ψ := []) [none, none, none, none, none, none, none, none, none, none, none, none, none, none, none, none, none, none, none, none, none, none, none, none, none, none, none, none, none, none, none, none, none] [none, none, none, none, none, none, none, none, none, none, none, none, none, none, none, none, none, none, none, none] zyw_X_isWithin zyw_X_both zye_X_both (by decide +kernel) (zt_X_isWithin hr7) trivial trivial rfl rfl rfl rfl rfl rfl rfl) zd175_25 zxt15 rfl (by decide) (by decide) rfl ?_
      refine zv_zeq hB zd175_28 rfl (fun hc8 => ?_) (fun hc8 => ?_)
      · rw [if_pos hc8] at h
        refine zv_con hB zd175_35 rfl ?_
        refine zv_ist hB zd175_36 rfl rfl rfl ?_
        refine zv_ild hB zd175_38 rfl rfl ?_
        refine zv_zeq hB zd175_40 rfl (fun _ => ?_) (fun hc => absurd hc (by decide))
        refine zv_con hB zd175_57 rfl ?_
        have hw := Option.some.inj h
        subst hw
        exact hret _ _ _ _ _ zd175_58 (by trivial) ⟨rfl, rfl, rfl⟩
      · rw [if_neg hc8] at h
        refine zv_con hB zd175_31 rfl ?_
        refine zv_goto hB zd175_32 rfl ?_
        refine zv_ist hB zd175_36 rfl rfl rfl ?_
        refine zv_ild hB zd175_38 rfl rfl ?_
        refine zv_zeq hB zd175_40 rfl (fun hc => absurd hc (by decide)) (fun _ => ?_)
        refine zv_ild hB zd175_43 rfl rfl ?_
        refine zv_zne hB zd175_44 rfl (fun hc11 => ?_) (fun hc11 => ?_)
        · rw [if_neg hc11] at h
          refine zv_ald hB zd175_59 rfl rfl rfl ?_
          refine zv_ald hB zd175_60 rfl rfl rfl ?_
          refine zv_getr hB zd175_61 rfl ?_
          refine zv_ild hB zd175_64 rfl rfl ?_
          obtain ⟨r12, hr12, h⟩ := zi_bind h
          refine zv_cs hB (zv_emq (va2 := [.inl x1]) (F := [.inr 3, .inr 1000, .inr 1000, .inl f3, .inl f4, .inl f5, .inl f6, .inl f7, .inl f8, .inl f9, .inl f10, .inl f11, .inl f12, .inl f13, .inl f14, .inl f15, .inl f16, .inl f17, .inl f18, .inl f19, .inr 1000, .inr 1000, .inl f22, .inl f23, .inl f24, .inl f25, .inl f26, .inr 21, .inl f28, .inr 1000, .inr 1000, .inl f31, .inl f32]) (F' := [.inr 3, .inr 1000, .inr 1000, .inl f3, .inl f4, .inl f5, .inl f6, .inl f7, .inl f8, .inl f9, .inl f10, .inl f11, .inl f12, .inl f13, .inl f14, .inl f15, .inl f16, .inl f17, .inl f18, .inl f19, .inr 1000, .inr 1000, .inl f22, .inl f23, .inl f24, .inl f25, .inl f26, .inr 21, .inl f28, .inr 1000, .inr 1000, .inl f31, .inl f32]) (G := [g0, g1, g2, g3, g4, g5, g6, g7, g8, g9, g10, g11, g12, g13, g14, g15, g16, g17, g18, g19]) (G' := [g0, g1, g2, g3, g4, g5, g6, g7, g8, g9, g10, g11, g12, g13, g14, g15, g16, g17, g18, g19]) (ρ := []) (φ := []) (ψ := []) [none, none, none, none, none, none, none, none, none, none, none, none, none, none, none, none, none, none, none, none, none, none, none, none, none, none, none, none, none, none, none, none, none] [none, none, none, none, none, none, none, none, none, none, none, none, none, none, none, none, none, none, none, none] zyw_X_columnOf zyw_X_both zye_X_both (by decide +kernel) (zt_X_columnOf hr12) trivial trivial rfl rfl rfl rfl rfl rfl rfl) zd175_65 zxt31 rfl (by decide) (by decide) rfl ?_
          refine zv_ild hB zd175_68 rfl rfl ?_
          obtain ⟨r13, hr13, h⟩ := zi_bind h
          refine zv_cs hB (zv_emq (va2 := [.inl x1]) (F := [.inr 3, .inr 1000, .inr 1000, .inl f3, .inl f4, .inl f5, .inl f6, .inl f7, .inl f8, .inl f9, .inl f10, .inl f11, .inl f12, .inl f13, .inl f14, .inl f15, .inl f16, .inl f17, .inl f18, .inl f19, .inr 1000, .inr 1000, .inl f22, .inl f23, .inl f24, .inl f25, .inl f26, .inr 21, .inl f28, .inr 1000, .inr 1000, .inl f31, .inl f32]) (F' := [.inr 3, .inr 1000, .inr 1000, .inl f3, .inl f4, .inl f5, .inl f6, .inl f7, .inl f8, .inl f9, .inl f10, .inl f11, .inl f12, .inl f13, .inl f14, .inl f15, .inl f16, .inl f17, .inl f18, .inl f19, .inr 1000, .inr 1000, .inl f22, .inl f23, .inl f24, .inl f25, .inl f26, .inr 21, .inl f28, .inr 1000, .inr 1000, .inl f31, .inl f32]) (G := [g0, g1, g2, g3, g4, g5, g6, g7, g8, g9, g10, g11, g12, g13, g14, g15, g16, g17, g18, g19]) (G' := [g0, g1, g2, g3, g4, g5, g6, g7, g8, g9, g10, g11, g12, g13, g14, g15, g16, g17, g18, g19]) (ρ := []) (φ := []) (ψ := []) [none, none, none, none, none, none, none, none, none, none, none, none, none, none, none, none, none, none, none, none, none, none, none, none, none, none, none, none, none, none, none, none, none] [none, none, none, none, none, none, none, none, none, none, none, none, none, none, none, none, none, none, none, none] zyw_X_rowOf zyw_X_both zye_X_both (by decide +kernel) (zt_X_rowOf hr13) trivial trivial rfl rfl rfl rfl rfl rfl rfl) zd175_69 zxt30 rfl (by decide) (by decide) rfl ?_
          obtain ⟨r14, hr14, h⟩ := zi_bind h
          refine zv_cv hB (zv_emq (va2 := [.inr 0, .inr 1, .inl r12, .inl r13]) (F := [.inr 3, .inr 1000, .inr 1000, .inl f3, .inl f4, .inl f5, .inl f6, .inl f7, .inl f8, .inl f9, .inl f10, .inl f11, .inl f12, .inl f13, .inl f14, .inl f15, .inl f16, .inl f17, .inl f18, .inl f19, .inr 1000, .inr 1000, .inl f22, .inl f23, .inl f24, .inl f25, .inl f26, .inr 21, .inl f28, .inr 1000, .inr 1000, .inl f31, .inl f32]) (F' := [.inr 3, .inr 2, .inr 3, .inl r14.1, .inl r14.2.1, .inl r14.2.2.1, .inl f6, .inl f7, .inl r14.2.2.2.1, .inl f9, .inl f10, .inl f11, .inl f12, .inl f13, .inl r14.2.2.2.2.1, .inl f15, .inl r14.2.2.2.2.2.1, .inl f17, .inl f18, .inl f19, .inr 1000, .inr 1000, .inl f22, .inl f23, .inl f24, .inl f25, .inl f26, .inr 21, .inl f28, .inr 1000, .inr 1000, .inl f31, .inl f32]) (G := [g0, g1, g2, g3, g4, g5, g6, g7, g8, g9, g10, g11, g12, g13, g14, g15, g16, g17, g18, g19]) (G' := [r14.2.2.2.2.2.2.1, r14.2.2.2.2.2.2.2.1, g2, g3, g4, g5, g6, g7, g8, r14.2.2.2.2.2.2.2.2.1, g10, r14.2.2.2.2.2.2.2.2.2.1, r14.2.2.2.2.2.2.2.2.2.2, g13, g14, g15, g16, g17, g18, g19]) (ρ := [0, 1, 2, 3, 4, 5, 6, 7, 8, 9, 10, 11, 12, 13, 14, 15, 16]) (φ := [0, 1, 2, 3, 4, 5, 6, 7, 8, 9, 10, 11, 12, 13, 14, 15, 16, 17, 18, 19]) (ψ := [0, 1, 2, 3, 4, 5, 6, 7, 8, 9, 10, 11, 12]) [some 0, some 1, some 2, some 3, some 4, some 5, some 6, some 7, some 8, some 9, some 10, some 11, some 12, some 13, some 14, some 15, some 16, some 17, some 18, some 19, none, none, none, none, none, none, none, none, none, none, none, none, none] [some 0, some 1, some 2, some 3, some 4, some 5, some 6, some 7, some 8, some 9, some 10, some 11, some 12, none, none, none, none, none, none, none] zyw_X_lookAndDraw zyw_X_both zye_X_both (by decide +kernel) (zt_X_lookAndDraw hr14) ⟨⟨_, rfl, fun _ => rfl⟩, ⟨_, rfl, fun (h : zv_is (.inr 1000)) => (Nat.lt_irrefl 1000 h).elim⟩, ⟨_, rfl, fun (h : zv_is (.inr 1000)) => (Nat.lt_irrefl 1000 h).elim⟩, ⟨_, rfl, fun _ => rfl⟩, ⟨_, rfl, fun _ => rfl⟩, ⟨_, rfl, fun _ => rfl⟩, ⟨_, rfl, fun _ => rfl⟩, ⟨_, rfl, fun _ => rfl⟩, ⟨_, rfl, fun _ => rfl⟩, ⟨_, rfl, fun _ => rfl⟩, ⟨_, rfl, fun _ => rfl⟩, ⟨_, rfl, fun _ => rfl⟩, ⟨_, rfl, fun _ => rfl⟩, ⟨_, rfl, fun _ => rfl⟩, ⟨_, rfl, fun _ => rfl⟩, ⟨_, rfl, fun _ => rfl⟩, ⟨_, rfl, fun _ => rfl⟩, ⟨_, rfl, fun _ => rfl⟩, ⟨_, rfl, fun _ => rfl⟩, ⟨_, rfl, fun _ => rfl⟩, trivial⟩ ⟨rfl, rfl, rfl, rfl, rfl, rfl, rfl, rfl, rfl, rfl, rfl, rfl, rfl, trivial⟩ rfl rfl rfl rfl rfl rfl rfl) zd175_72 zxt96 rfl (by decide) (by decide) rfl ?_
          refine zv_ald hB zd175_75 rfl rfl rfl ?_
          refine zv_ald hB zd175_76 rfl rfl rfl ?_
          refine zv_getr hB zd175_77 rfl ?_
          refine zv_ild hB zd175_80 rfl rfl ?_
          obtain ⟨r15, hr15, h⟩ := zi_bind h
          refine zv_cs hB (zv_emq (va2 := [.inl x2]) (F := [.inr 3, .inr 2, .inr 3, .inl r14.1, .inl r14.2.1, .inl r14.2.2.1, .inl f6, .inl f7, .inl r14.2.2.2.1, .inl f9, .inl f10, .inl f11, .inl f12, .inl f13, .inl r14.2.2.2.2.1, .inl f15, .inl r14.2.2.2.2.2.1, .inl f17, .inl f18, .inl f19, .inr 1000, .inr 1000, .inl f22, .inl f23, .inl f24, .inl f25, .inl f26, .inr 21, .inl f28, .inr 1000, .inr 1000, .inl f31, .inl f32]) (F' := [.inr 3, .inr 2, .inr 3, .inl r14.1, .inl r14.2.1, .inl r14.2.2.1, .inl f6, .inl f7, .inl r14.2.2.2.1, .inl f9, .inl f10, .inl f11, .inl f12, .inl f13, .inl r14.2.2.2.2.1, .inl f15, .inl r14.2.2.2.2.2.1, .inl f17, .inl f18, .inl f19, .inr 1000, .inr 1000, .inl f22, .inl f23, .inl f24, .inl f25, .inl f26, .inr 21, .inl f28, .inr 1000, .inr 1000, .inl f31, .inl f32]) (G := [r14.2.2.2.2.2.2.1, r14.2.2.2.2.2.2.2.1, g2, g3, g4, g5, g6, g7, g8, r14.2.2.2.2.2.2.2.2.1, g10, r14.2.2.2.2.2.2.2.2.2.1, r14.2.2.2.2.2.2.2.2.2.2, g13, g14, g15, g16, g17, g18, g19]) (G' := [r14.2.2.2.2.2.2.1, r14.2.2.2.2.2.2.2.1, g2, g3, g4, g5, g6, g7, g8, r14.2.2.2.2.2.2.2.2.1, g10, r14.2.2.2.2.2.2.2.2.2.1, r14.2.2.2.2.2.2.2.2.2.2, g13, g14, g15, g16, g17, g18, g19]) (ρ := []) (φ := []) (ψ := []) [none, none, none, none, none, none, none, none, none, none, none, none, none, none, none, none, none, none, none, none, none, none, none, none, none, none, none, none, none, none, none, none, none] [none, none, none, none, none, none, none, none, none, none, none, none, none, none, none, none, none, none, none, none] zyw_X_columnOf zyw_X_both zye_X_both (by decide +kernel) (zt_X_columnOf hr15) trivial trivial rfl rfl rfl rfl rfl rfl rfl) zd175_81 zxt31 rfl (by decide) (by decide) rfl ?_
          refine zv_ild hB zd175_84 rfl rfl ?_
          obtain ⟨r16, hr16, h⟩ := zi_bind h
          refine zv_cs hB (zv_emq (va2 := [.inl x2]) (F := [.inr 3, .inr 2, .inr 3, .inl r14.1, .inl r14.2.1, .inl r14.2.2.1, .inl f6, .inl f7, .inl r14.2.2.2.1, .inl f9, .inl f10, .inl f11, .inl f12, .inl f13, .inl r14.2.2.2.2.1, .inl f15, .inl r14.2.2.2.2.2.1, .inl f17, .inl f18, .inl f19, .inr 1000, .inr 1000, .inl f22, .inl f23, .inl f24, .inl f25, .inl f26, .inr 21, .inl f28, .inr 1000, .inr 1000, .inl f31, .inl f32]) (F' := [.inr 3, .inr 2, .inr 3, .inl r14.1, .inl r14.2.1, .inl r14.2.2.1, .inl f6, .inl f7, .inl r14.2.2.2.1, .inl f9, .inl f10, .inl f11, .inl f12, .inl f13, .inl r14.2.2.2.2.1, .inl f15, .inl r14.2.2.2.2.2.1, .inl f17, .inl f18, .inl f19, .inr 1000, .inr 1000, .inl f22, .inl f23, .inl f24, .inl f25, .inl f26, .inr 21, .inl f28, .inr 1000, .inr 1000, .inl f31, .inl f32]) (G := [r14.2.2.2.2.2.2.1, r14.2.2.2.2.2.2.2.1, g2, g3, g4, g5, g6, g7, g8, r14.2.2.2.2.2.2.2.2.1, g10, r14.2.2.2.2.2.2.2.2.2.1, r14.2.2.2.2.2.2.2.2.2.2, g13, g14, g15, g16, g17, g18, g19]) (G' := [r14.2.2.2.2.2.2.1, r14.2.2.2.2.2.2.2.1, g2, g3, g4, g5, g6, g7, g8, r14.2.2.2.2.2.2.2.2.1, g10, r14.2.2.2.2.2.2.2.2.2.1, r14.2.2.2.2.2.2.2.2.2.2, g13, g14, g15, g16, g17, g18, g19]) (ρ := []) (φ := []) (ψ := []) [none, none, none, none, none, none, none, none, none, none, none, none, none, none, none, none, none, none, none, none, none, none, none, none, none, none, none, none, none, none, none, none, none] [none, none, none, none, none, none, none, none, none, none, none, none, none, none, none, none, none, none, none, none] zyw_X_rowOf zyw_X_both zye_X_both (by decide +kernel) (zt_X_rowOf hr16) trivial trivial rfl rfl rfl rfl rfl rfl rfl) zd175_85 zxt30 rfl (by decide) (by decide) rfl ?_
          obtain ⟨r17, hr17, h⟩ := zi_bind h
          refine zv_cv hB (zv_emq (va2 := [.inr 0, .inr 17, .inl r15, .inl r16]) (F := [.inr 3, .inr 2, .inr 3, .inl r14.1, .inl r14.2.1, .inl r14.2.2.1, .inl f6, .inl f7, .inl r14.2.2.2.1, .inl f9, .inl f10, .inl f11, .inl f12, .inl f13, .inl r14.2.2.2.2.1, .inl f15, .inl r14.2.2.2.2.2.1, .inl f17, .inl f18, .inl f19, .inr 1000, .inr 1000, .inl f22, .inl f23, .inl f24, .inl f25, .inl f26, .inr 21, .inl f28, .inr 1000, .inr 1000, .inl f31, .inl f32]) (F' := [.inr 3, .inr 2, .inr 3, .inl r14.1, .inl r14.2.1, .inl r14.2.2.1, .inl f6, .inl f7, .inl r14.2.2.2.1, .inl f9, .inl f10, .inl f11, .inl f12, .inl f13, .inl r14.2.2.2.2.1, .inl f15, .inl r17.2.2.2.2.2.1, .inl f17, .inl f18, .inl f19, .inr 2, .inr 3, .inl r17.1, .inl r17.2.1, .inl r17.2.2.1, .inl r17.2.2.2.1, .inl r17.2.2.2.2.1, .inr 21, .inl f28, .inr 1000, .inr 1000, .inl f31, .inl f32]) (G := [r14.2.2.2.2.2.2.1, r14.2.2.2.2.2.2.2.1, g2, g3, g4, g5, g6, g7, g8, r14.2.2.2.2.2.2.2.2.1, g10, r14.2.2.2.2.2.2.2.2.2.1, r14.2.2.2.2.2.2.2.2.2.2, g13, g14, g15, g16, g17, g18, g19]) (G' := [r14.2.2.2.2.2.2.1, r17.2.2.2.2.2.2.2.1, g2, g3, g4, g5, g6, g7, g8, r17.2.2.2.2.2.2.2.2.1, g10, r14.2.2.2.2.2.2.2.2.2.1, r14.2.2.2.2.2.2.2.2.2.2, r17.2.2.2.2.2.2.1, r17.2.2.2.2.2.2.2.2.2.1, r17.2.2.2.2.2.2.2.2.2.2, g16, g17, g18, g19]) (ρ := [0, 17, 2, 3, 18, 5, 6, 7, 8, 9, 10, 11, 12, 13, 14, 19, 20]) (φ := [0, 20, 21, 22, 23, 24, 6, 7, 25, 9, 10, 11, 12, 13, 26, 15, 16, 17, 18, 19]) (ψ := [13, 1, 2, 3, 4, 5, 6, 7, 8, 9, 10, 14, 15]) [some 0, none, none, none, none, none, some 6, some 7, none, some 9, some 10, some 11, some 12, some 13, none, some 15, some 16, some 17, some 18, some 19, some 1, some 2, some 3, some 4, some 5, some 8, some 14, none, none, none, none, none, none] [none, some 1, some 2, some 3, some 4, some 5, some 6, some 7, some 8, some 9, some 10, none, none, some 0, some 11, some 12, none, none, none, none] zyw_X_lookAndDraw zyw_X_both zye_X_both (by decide +kernel) (zt_X_lookAndDraw hr17) ⟨⟨_, rfl, fun _ => rfl⟩, ⟨_, rfl, fun (h : zv_is (.inr 1000)) => (Nat.lt_irrefl 1000 h).elim⟩, ⟨_, rfl, fun (h : zv_is (.inr 1000)) => (Nat.lt_irrefl 1000 h).elim⟩, ⟨_, rfl, fun _ => rfl⟩, ⟨_, rfl, fun _ => rfl⟩, ⟨_, rfl, fun _ => rfl⟩, ⟨_, rfl, fun _ => rfl⟩, ⟨_, rfl, fun _ => rfl⟩, ⟨_, rfl, fun _ => rfl⟩, ⟨_, rfl, fun _ => rfl⟩, ⟨_, rfl, fun _ => rfl⟩, ⟨_, rfl, fun _ => rfl⟩, ⟨_, rfl, fun _ => rfl⟩, ⟨_, rfl, fun _ => rfl⟩, ⟨_, rfl, fun _ => rfl⟩, ⟨_, rfl, fun _ => rfl⟩, ⟨_, rfl, fun _ => rfl⟩, ⟨_, rfl, fun _ => rfl⟩, ⟨_, rfl, fun _ => rfl⟩, ⟨_, rfl, fun _ => rfl⟩, trivial⟩ ⟨rfl, rfl, rfl, rfl, rfl, rfl, rfl, rfl, rfl, rfl, rfl, rfl, rfl, trivial⟩ rfl rfl rfl rfl rfl rfl rfl) zd175_88 zxt96 rfl (by decide) (by decide) rfl ?_
          refine zv_ald hB zd175_91 rfl rfl rfl ?_
          refine zv_getr hB zd175_92 rfl ?_
          refine zv_ald hB zd175_95 rfl rfl rfl ?_
          refine zv_getr hB zd175_96 rfl ?_
          obtain ⟨r18, hr18, h⟩ := zi_bind h
          refine zv_cv hB (zv_emq (va2 := [.inr 1, .inr 17]) (F := [.inr 3, .inr 2, .inr 3, .inl r14.1, .inl r14.2.1, .inl r14.2.2.1, .inl f6, .inl f7, .inl r14.2.2.2.1, .inl f9, .inl f10, .inl f11, .inl f12, .inl f13, .inl r14.2.2.2.2.1, .inl f15, .inl r17.2.2.2.2.2.1, .inl f17, .inl f18, .inl f19, .inr 2, .inr 3, .inl r17.1, .inl r17.2.1, .inl r17.2.2.1, .inl r17.2.2.2.1, .inl r17.2.2.2.2.1, .inr 21, .inl f28, .inr 1000, .inr 1000, .inl f31, .inl f32]) (F' := [.inr 3, .inr 2, .inr 3, .inl r14.1, .inl r14.2.1, .inl r14.2.2.1, .inl f6, .inl f7, .inl r18.1, .inl f9, .inl f10, .inl f11, .inl f12, .inl f13, .inl r14.2.2.2.2.1, .inl f15, .inl r17.2.2.2.2.2.1, .inl f17, .inl f18, .inl f19, .inr 2, .inr 3, .inl r17.1, .inl r17.2.1, .inl r17.2.2.1, .inl r17.2.2.2.1, .inl r17.2.2.2.2.1, .inr 21, .inl f28, .inr 1000, .inr 1000, .inl f31, .inl f32]) (G := [r14.2.2.2.2.2.2.1, r17.2.2.2.2.2.2.2.1, g2, g3, g4, g5, g6, g7, g8, r17.2.2.2.2.2.2.2.2.1, g10, r14.2.2.2.2.2.2.2.2.2.1, r14.2.2.2.2.2.2.2.2.2.2, r17.2.2.2.2.2.2.1, r17.2.2.2.2.2.2.2.2.2.1, r17.2.2.2.2.2.2.2.2.2.2, g16, g17, g18, g19]) (G' := [r14.2.2.2.2.2.2.1, r17.2.2.2.2.2.2.2.1, g2, g3, g4, g5, g6, g7, g8, r17.2.2.2.2.2.2.2.2.1, g10, r18.2, r14.2.2.2.2.2.2.2.2.2.2, r17.2.2.2.2.2.2.1, r17.2.2.2.2.2.2.2.2.2.1, r17.2.2.2.2.2.2.2.2.2.2, g16, g17, g18, g19]) (ρ := [1, 17, 15, 19]) (φ := [8, 25]) (ψ := [11, 14]) [none, none, none, none, none, none, none, none, some 0, none, none, none, none, none, none, none, none, none, none, none, none, none, none, none, none, some 1, none, none, none, none, none, none, none] [none, none, none, none, none, none, none, none, none, none, none, some 0, none, none, some 1, none, none, none, none, none] zyw_View_keepShared zyw_X_both zye_X_both (by decide +kernel) (zt_View_keepShared hr18) ⟨⟨_, rfl, fun _ => rfl⟩, ⟨_, rfl, fun _ => rfl⟩, trivial⟩ ⟨rfl, rfl, trivial⟩ rfl rfl rfl rfl rfl rfl rfl) zd175_99 zxt176 rfl (by decide) (by decide) rfl ?_
          refine zv_ild hB zd175_102 rfl rfl ?_
          refine zv_lsw hB zd175_103 rfl ?_
          refine ⟨fun hc => absurd (show x3 = 0 from hc) (by omega), fun hc19 => ?_⟩
          replace hc19 : x3 ≠ 0 := hc19
          refine ⟨fun hc20 => ⟨_, rfl, ?_⟩, fun hc20 => ?_⟩
          · replace hc20 : x3 = 1 := hc20
            rw [if_pos hc20] at h
            refine zv_ald hB zd175_157 rfl rfl rfl ?_
            refine zv_getr hB zd175_158 rfl ?_
            refine zv_getf hB zd175_161 rfl rfl (fun _ _ => ?_)
            have hw := Option.some.inj h
            refine zv_wk hB (L' := [.inr 0, .inl x1, .inl x2, .inl x3, .inl 1]) (F' := [.inr 3, .inr 1000, .inr 1000, .inl r14.1, .inl r14.2.1, .inl r14.2.2.1, .inl f6, .inl f7, .inl r18.1, .inl f9, .inl f10, .inl f11, .inl f12, .inl f13, .inl r14.2.2.2.2.1, .inl f15, .inl r17.2.2.2.2.2.1, .inl f17, .inl f18, .inl f19, .inr 1000, .inr 1000, .inl r17.1, .inl r17.2.1, .inl r17.2.2.1, .inl r17.2.2.2.1, .inl r17.2.2.2.2.1, .inr 21, .inl f28, .inr 1000, .inr 1000, .inl f31, .inl f32]) ⟨fun _ => rfl, fun _ => rfl, fun _ => rfl, fun _ => rfl, fun _ => rfl, trivial⟩ ⟨fun _ => rfl, fun (h : zv_is (.inr 1000)) => (Nat.lt_irrefl 1000 h).elim, fun (h : zv_is (.inr 1000)) => (Nat.lt_irrefl 1000 h).elim, fun _ => rfl, fun _ => rfl, fun _ => rfl, fun _ => rfl, fun _ => rfl, fun _ => rfl, fun _ => rfl, fun _ => rfl, fun _ => rfl, fun _ => rfl, fun _ => rfl, fun _ => rfl, fun _ => rfl, fun _ => rfl, fun _ => rfl, fun _ => rfl, fun _ => rfl, fun (h : zv_is (.inr 1000)) => (Nat.lt_irrefl 1000 h).elim, fun (h : zv_is (.inr 1000)) => (Nat.lt_irrefl 1000 h).elim, fun _ => rfl, fun _ => rfl, fun _ => rfl, fun _ => rfl, fun _ => rfl, fun _ => rfl, fun _ => rfl, fun (h : zv_is (.inr 1000)) => (Nat.lt_irrefl 1000 h).elim, fun (h : zv_is (.inr 1000)) => (Nat.lt_irrefl 1000 h).elim, fun _ => rfl, fun _ => rfl, trivial⟩ ?_
            subst hw
            exact hret _ _ _ _ _ zd175_164 (by trivial) ⟨rfl, rfl, rfl⟩
          replace hc20 : x3 ≠ 1 := hc20
          rw [if_neg hc20] at h
          refine ⟨_, rfl, ?_⟩
          refine zv_ald hB zd175_165 rfl rfl rfl ?_
          refine zv_getr hB zd175_166 rfl ?_
          obtain ⟨r21, hr21, h⟩ := zi_bind h
          refine zv_cv hB (zv_emq (va2 := [.inr 1]) (F := [.inr 3, .inr 2, .inr 3, .inl r14.1, .inl r14.2.1, .inl r14.2.2.1, .inl f6, .inl f7, .inl r18.1, .inl f9, .inl f10, .inl f11, .inl f12, .inl f13, .inl r14.2.2.2.2.1, .inl f15, .inl r17.2.2.2.2.2.1, .inl f17, .inl f18, .inl f19, .inr 2, .inr 3, .inl r17.1, .inl r17.2.1, .inl r17.2.2.1, .inl r17.2.2.2.1, .inl r17.2.2.2.2.1, .inr 21, .inl f28, .inr 1000, .inr 1000, .inl f31, .inl f32]) (F' := [.inr 3, .inr 2, .inr 3, .inl r14.1, .inl r14.2.1, .inl r14.2.2.1, .inl f6, .inl f7, .inl r18.1, .inl f9, .inl f10, .inl f11, .inl f12, .inl f13, .inl r14.2.2.2.2.1, .inl f15, .inl r17.2.2.2.2.2.1, .inl f17, .inl f18, .inl f19, .inr 2, .inr 3, .inl r17.1, .inl r17.2.1, .inl r17.2.2.1, .inl r17.2.2.2.1, .inl r17.2.2.2.2.1, .inr 21, .inl f28, .inr 1000, .inr 1000, .inl f31, .inl f32]) (G := [r14.2.2.2.2.2.2.1, r17.2.2.2.2.2.2.2.1, g2, g3, g4, g5, g6, g7, g8, r17.2.2.2.2.2.2.2.2.1, g10, r18.2, r14.2.2.2.2.2.2.2.2.2.2, r17.2.2.2.2.2.2.1, r17.2.2.2.2.2.2.2.2.2.1, r17.2.2.2.2.2.2.2.2.2.2, g16, g17, g18, g19]) (G' := [r14.2.2.2.2.2.2.1, r17.2.2.2.2.2.2.2.1, g2, g3, g4, g5, g6, g7, g8, r17.2.2.2.2.2.2.2.2.1, g10, r18.2, r14.2.2.2.2.2.2.2.2.2.2, r17.2.2.2.2.2.2.1, r17.2.2.2.2.2.2.2.2.2.1, r17.2.2.2.2.2.2.2.2.2.2, g16, g17, g18, g19]) (ρ := [1, 15]) (φ := []) (ψ := [11]) [none, none, none, none, none, none, none, none, none, none, none, none, none, none, none, none, none, none, none, none, none, none, none, none, none, none, none, none, none, none, none, none, none] [none, none, none, none, none, none, none, none, none, none, none, some 0, none, none, none, none, none, none, none, none] zyw_View_countLines zyw_X_both zye_X_both (by decide +kernel) (zt_View_countLines hr21) trivial ⟨rfl, trivial⟩ rfl rfl rfl rfl rfl rfl rfl) zd175_169 zxt101 rfl (by decide) (by decide) rfl ?_
          have hw := Option.some.inj h
          refine zv_wk hB (L' := [.inr 0, .inl x1, .inl x2, .inl x3, .inl 1]) (F' := [.inr 3, .inr 1000, .inr 1000, .inl r14.1, .inl r14.2.1, .inl r14.2.2.1, .inl f6, .inl f7, .inl r18.1, .inl f9, .inl f10, .inl f11, .inl f12, .inl f13, .inl r14.2.2.2.2.1, .inl f15, .inl r17.2.2.2.2.2.1, .inl f17, .inl f18, .inl f19, .inr 1000, .inr 1000, .inl r17.1, .inl r17.2.1, .inl r17.2.2.1, .inl r17.2.2.2.1, .inl r17.2.2.2.2.1, .inr 21, .inl f28, .inr 1000, .inr 1000, .inl f31, .inl f32]) ⟨fun _ => rfl, fun _ => rfl, fun _ => rfl, fun _ => rfl, fun _ => rfl, trivial⟩ ⟨fun _ => rfl, fun (h : zv_is (.inr 1000)) => (Nat.lt_irrefl 1000 h).elim, fun (h : zv_is (.inr 1000)) => (Nat.lt_irrefl 1000 h).elim, fun _ => rfl, fun _ => rfl, fun _ => rfl, fun _ => rfl, fun _ => rfl, fun _ => rfl, fun _ => rfl, fun _ => rfl, fun _ => rfl, fun _ => rfl, fun _ => rfl, fun _ => rfl, fun _ => rfl, fun _ => rfl, fun _ => rfl, fun _ => rfl, fun _ => rfl, fun (h : zv_is (.inr 1000)) => (Nat.lt_irrefl 1000 h).elim, fun (h : zv_is (.inr 1000)) => (Nat.lt_irrefl 1000 h).elim, fun _ => rfl, fun _ => rfl, fun _ => rfl, fun _ => rfl, fun _ => rfl, fun _ => rfl, fun _ => rfl, fun (h : zv_is (.inr 1000)) => (Nat.lt_irrefl 1000 h).elim, fun (h : zv_is (.inr 1000)) => (Nat.lt_irrefl 1000 h).elim, fun _ => rfl, fun _ => rfl, trivial⟩ ?_
          subst hw
          exact hret _ _ _ _ _ zd175_172 (by trivial) ⟨rfl, rfl, rfl⟩
        · rw [if_pos hc11] at h
          refine zv_ald hB zd175_47 rfl rfl rfl ?_
          refine zv_getq hB zd175_48 rfl rfl rfl ?_
          refine zv_getf hB zd175_51 rfl rfl (fun _ _ => ?_)
          refine zv_zne hB zd175_54 rfl (fun hc22 => ?_) (fun hc22 => ?_)
          · rw [if_neg hc22] at h
            refine zv_ald hB zd175_59 rfl rfl rfl ?_
            refine zv_ald hB zd175_60 rfl rfl rfl ?_
            refine zv_getr hB zd175_61 rfl ?_
            refine zv_ild hB zd175_64 rfl rfl ?_
            obtain ⟨r23, hr23, h⟩ := zi_bind h
            refine zv_cs hB (zv_emq (va2 := [.inl x1]) (F := [.inr 3, .inr 1000, .inr 1000, .inl f3, .inl f4, .inl f5, .inl f6, .inl f7, .inl f8, .inl f9, .inl f10, .inl f11, .inl f12, .inl f13, .inl f14, .inl f15, .inl f16, .inl f17, .inl f18, .inl f19, .inr 1000, .inr 1000, .inl f22, .inl f23, .inl f24, .inl f25, .inl f26, .inr 21, .inl f28, .inr 1000, .inr 1000, .inl f31, .inl f32]) (F' := [.inr 3, .inr 1000, .inr 1000, .inl f3, .inl f4, .inl f5, .inl f6, .inl f7, .inl f8, .inl f9, .inl f10, .inl f11, .inl f12, .inl f13, .inl f14, .inl f15, .inl f16, .inl f17, .inl f18, .inl f19, .inr 1000, .inr 1000, .inl f22, .inl f23, .inl f24, .inl f25, .inl f26, .inr 21, .inl f28, .inr 1000, .inr 1000, .inl f31, .inl f32]) (G := [g0, g1, g2, g3, g4, g5, g6, g7, g8, g9, g10, g11, g12, g13, g14, g15, g16, g17, g18, g19]) (G' := [g0, g1, g2, g3, g4, g5, g6, g7, g8, g9, g10, g11, g12, g13, g14, g15, g16, g17, g18, g19]) (ρ := []) (φ := []) (ψ := []) [none, none, none, none, none, none, none, none, none, none, none, none, none, none, none, none, none, none, none, none, none, none, none, none, none, none, none, none, none, none, none, none, none] [none, none, none, none, none, none, none, none, none, none, none, none, none, none, none, none, none, none, none, none] zyw_X_columnOf zyw_X_both zye_X_both (by decide +kernel) (zt_X_columnOf hr23) trivial trivial rfl rfl rfl rfl rfl rfl rfl) zd175_65 zxt31 rfl (by decide) (by decide) rfl ?_
            refine zv_ild hB zd175_68 rfl rfl ?_
            obtain ⟨r24, hr24, h⟩ := zi_bind h
            refine zv_cs hB (zv_emq (va2 := [.inl x1]) (F := [.inr 3, .inr 1000, .inr 1000, .inl f3, .inl f4, .inl f5, .inl f6, .inl f7, .inl f8, .inl f9, .inl f10, .inl f11, .inl f12, .inl f13, .inl f14, .inl f15, .inl f16, .inl f17, .inl f18, .inl f19, .inr 1000, .inr 1000, .inl f22, .inl f23, .inl f24, .inl f25, .inl f26, .inr 21, .inl f28, .inr 1000, .inr 1000, .inl f31, .inl f32]) (F' := [.inr 3, .inr 1000, .inr 1000, .inl f3, .inl f4, .inl f5, .inl f6, .inl f7, .inl f8, .inl f9, .inl f10, .inl f11, .inl f12, .inl f13, .inl f14, .inl f15, .inl f16, .inl f17, .inl f18, .inl f19, .inr 1000, .inr 1000, .inl f22, .inl f23, .inl f24, .inl f25, .inl f26, .inr 21, .inl f28, .inr 1000, .inr 1000, .inl f31, .inl f32]) (G := [g0, g1, g2, g3, g4, g5, g6, g7, g8, g9, g10, g11, g12, g13, g14, g15, g16, g17, g18, g19]) (G' := [g0, g1, g2, g3, g4, g5, g6, g7, g8, g9, g10, g11, g12, g13, g14, g15, g16, g17, g18, g19]) (ρ := []) (φ := []) (ψ := []) [none, none, none, none, none, none, none, none, none, none, none, none, none, none, none, none, none, none, none, none, none, none, none, none, none, none, none, none, none, none, none, none, none] [none, none, none, none, none, none, none, none, none, none, none, none, none, none, none, none, none, none, none, none] zyw_X_rowOf zyw_X_both zye_X_both (by decide +kernel) (zt_X_rowOf hr24) trivial trivial rfl rfl rfl rfl rfl rfl rfl) zd175_69 zxt30 rfl (by decide) (by decide) rfl ?_
            obtain ⟨r25, hr25, h⟩ := zi_bind h
            refine zv_cv hB (zv_emq (va2 := [.inr 0, .inr 1, .inl r23, .inl r24]) (F := [.inr 3, .inr 1000, .inr 1000, .inl f3, .inl f4, .inl f5, .inl f6, .inl f7, .inl f8, .inl f9, .inl f10, .inl f11, .inl f12, .inl f13, .inl f14, .inl f15, .inl f16, .inl f17, .inl f18, .inl f19, .inr 1000, .inr 1000, .inl f22, .inl f23, .inl f24, .inl f25, .inl f26, .inr 21, .inl f28, .inr 1000, .inr 1000, .inl f31, .inl f32]) (F' := [.inr 3, .inr 2, .inr 3, .inl r25.1, .inl r25.2.1, .inl r25.2.2.1, .inl f6, .inl f7, .inl r25.2.2.2.1, .inl f9, .inl f10, .inl f11, .inl f12, .inl f13, .inl r25.2.2.2.2.1, .inl f15, .inl r25.2.2.2.2.2.1, .inl f17, .inl f18, .inl f19, .inr 1000, .inr 1000, .inl f22, .inl f23, .inl f24, .inl f25, .inl f26, .inr 21, .inl f28, .inr 1000, .inr 1000, .inl f31, .inl f32]) (G := [g0, g1, g2, g3, g4, g5, g6, g7, g8, g9, g10, g11, g12, g13, g14, g15, g16, g17, g18, g19]) (G' := [r25.2.2.2.2.2.2.1, r25.2.2.2.2.2.2.2.1, g2, g3, g4, g5, g6, g7, g8, r25.2.2.2.2.2.2.2.2.1, g10, r25.2.2.2.2.2.2.2.2.2.1, r25.2.2.2.2.2.2.2.2.2.2, g13, g14, g15, g16, g17, g18, g19]) (ρ := [0, 1, 2, 3, 4, 5, 6, 7, 8, 9, 10, 11, 12, 13, 14, 15, 16]) (φ := [0, 1, 2, 3, 4, 5, 6, 7, 8, 9, 10, 11, 12, 13, 14, 15, 16, 17, 18, 19]) (ψ := [0, 1, 2, 3, 4, 5, 6, 7, 8, 9, 10, 11, 12]) [some 0, some 1, some 2, some 3, some 4, some 5, some 6, some 7, some 8, some 9, some 10, some 11, some 12, some 13, some 14, some 15, some 16, some 17, some 18, some 19, none, none, none, none, none, none, none, none, none, none, none, none, none] [some 0, some 1, some 2, some 3, some 4, some 5, some 6, some 7, some 8, some 9, some 10, some 11, some 12, none, none, none, none, none, none, none] zyw_X_lookAndDraw zyw_X_both zye_X_both (by decide +kernel) (zt_X_lookAndDraw hr25) ⟨⟨_, rfl, fun _ => rfl⟩, ⟨_, rfl, fun (h : zv_is (.inr 1000)) => (Nat.lt_irrefl 1000 h).elim⟩, ⟨_, rfl, fun (h : zv_is (.inr 1000)) => (Nat.lt_irrefl 1000 h).elim⟩, ⟨_, rfl, fun _ => rfl⟩, ⟨_, rfl, fun _ => rfl⟩, ⟨_, rfl, fun _ => rfl⟩, ⟨_, rfl, fun _ => rfl⟩, ⟨_, rfl, fun _ => rfl⟩, ⟨_, rfl, fun _ => rfl⟩, ⟨_, rfl, fun _ => rfl⟩, ⟨_, rfl, fun _ => rfl⟩, ⟨_, rfl, fun _ => rfl⟩, ⟨_, rfl, fun _ => rfl⟩, ⟨_, rfl, fun _ => rfl⟩, ⟨_, rfl, fun _ => rfl⟩, ⟨_, rfl, fun _ => rfl⟩, ⟨_, rfl, fun _ => rfl⟩, ⟨_, rfl, fun _ => rfl⟩, ⟨_, rfl, fun _ => rfl⟩, ⟨_, rfl, fun _ => rfl⟩, trivial⟩ ⟨rfl, rfl, rfl, rfl, rfl, rfl, rfl, rfl, rfl, rfl, rfl, rfl, rfl, trivial⟩ rfl rfl rfl rfl rfl rfl rfl) zd175_72 zxt96 rfl (by decide) (by decide) rfl ?_
            refine zv_ald hB zd175_75 rfl rfl rfl ?_
            refine zv_ald hB zd175_76 rfl rfl rfl ?_
            refine zv_getr hB zd175_77 rfl ?_
            refine zv_ild hB zd175_80 rfl rfl ?_
            obtain ⟨r26, hr26, h⟩ := zi_bind h
            refine zv_cs hB (zv_emq (va2 := [.inl x2]) (F := [.inr 3, .inr 2, .inr 3, .inl r25.1, .inl r25.2.1, .inl r25.2.2.1, .inl f6, .inl f7, .inl r25.2.2.2.1, .inl f9, .inl f10, .inl f11, .inl f12, .inl f13, .inl r25.2.2.2.2.1, .inl f15, .inl r25.2.2.2.2.2.1, .inl f17, .inl f18, .inl f19, .inr 1000, .inr 1000, .inl f22, .inl f23, .inl f24, .inl f25, .inl f26, .inr 21, .inl f28, .inr 1000, .inr 1000, .inl f31, .inl f32]) (F' := [.inr 3, .inr 2, .inr 3, .inl r25.1, .inl r25.2.1, .inl r25.2.2.1, .inl f6, .inl f7, .inl r25.2.2.2.1, .inl f9, .inl f10, .inl f11, .inl f12, .inl f13, .inl r25.2.2.2.2.1, .inl f15, .inl r25.2.2.2.2.2.1, .inl f17, .inl f18, .inl f19, .inr 1000, .inr 1000, .inl f22, .inl f23, .inl f24, .inl f25, .inl f26, .inr 21, .inl f28, .inr 1000, .inr 1000, .inl f31, .inl f32]) (G := [r25.2.2.2.2.2.2.1, r25.2.2.2.2.2.2.2.1, g2, g3, g4, g5, g6, g7, g8, r25.2.2.2.2.2.2.2.2.1, g10, r25.2.2.2.2.2.2.2.2.2.1, r25.2.2.2.2.2.2.2.2.2.2, g13, g14, g15, g16, g17, g18, g19]) (G' := [r25.2.2.2.2.2.2.1, r25.2.2.2.2.2.2.2.1, g2, g3, g4, g5, g6, g7, g8, r25.2.2.2.2.2.2.2.2.1, g10, r25.2.2.2.2.2.2.2.2.2.1, r25.2.2.2.2.2.2.2.2.2.2, g13, g14, g15, g16, g17, g18, g19]) (ρ := []) (φ := []) (ψ := []) [none, none, none, none, none, none, none, none, none, none, none, none, none, none, none, none, none, none, none, none, none, none, none, none, none, none, none, none, none, none, none, none, none] [none, none, none, none, none, none, none, none, none, none, none, none, none, none, none, none, none, none, none, none] zyw_X_columnOf zyw_X_both zye_X_both (by decide +kernel) (zt_X_columnOf hr26) trivial trivial rfl rfl rfl rfl rfl rfl rfl) zd175_81 zxt31 rfl (by decide) (by decide) rfl ?_
            refine zv_ild hB zd175_84 rfl rfl ?_
            obtain ⟨r27, hr27, h⟩ := zi_bind h
            refine zv_cs hB (zv_emq (va2 := [.inl x2]) (F := [.inr 3, .inr 2, .inr 3, .inl r25.1, .inl r25.2.1, .inl r25.2.2.1, .inl f6, .inl f7, .inl r25.2.2.2.1, .inl f9, .inl f10, .inl f11, .inl f12, .inl f13, .inl r25.2.2.2.2.1, .inl f15, .inl r25.2.2.2.2.2.1, .inl f17, .inl f18, .inl f19, .inr 1000, .inr 1000, .inl f22, .inl f23, .inl f24, .inl f25, .inl f26, .inr 21, .inl f28, .inr 1000, .inr 1000, .inl f31, .inl f32]) (F' := [.inr 3, .inr 2, .inr 3, .inl r25.1, .inl r25.2.1, .inl r25.2.2.1, .inl f6, .inl f7, .inl r25.2.2.2.1, .inl f9, .inl f10, .inl f11, .inl f12, .inl f13, .inl r25.2.2.2.2.1, .inl f15, .inl r25.2.2.2.2.2.1, .inl f17, .inl f18, .inl f19, .inr 1000, .inr 1000, .inl f22, .inl f23, .inl f24, .inl f25, .inl f26, .inr 21, .inl f28, .inr 1000, .inr 1000, .inl f31, .inl f32]) (G := [r25.2.2.2.2.2.2.1, r25.2.2.2.2.2.2.2.1, g2, g3, g4, g5, g6, g7, g8, r25.2.2.2.2.2.2.2.2.1, g10, r25.2.2.2.2.2.2.2.2.2.1, r25.2.2.2.2.2.2.2.2.2.2, g13, g14, g15, g16, g17, g18, g19]) (G' := [r25.2.2.2.2.2.2.1, r25.2.2.2.2.2.2.2.1, g2, g3, g4, g5, g6, g7, g8, r25.2.2.2.2.2.2.2.2.1, g10, r25.2.2.2.2.2.2.2.2.2.1, r25.2.2.2.2.2.2.2.2.2.2, g13, g14, g15, g16, g17, g18, g19]) (ρ := []) (φ := []) (ψ := []) [none, none, none, none, none, none, none, none, none, none, none, none, none, none, none, none, none, none, none, none, none, none, none, none, none, none, none, none, none, none, none, none, none] [none, none, none, none, none, none, none, none, none, none, none, none, none, none, none, none, none, none, none, none] zyw_X_rowOf zyw_X_both zye_X_both (by decide +kernel) (zt_X_rowOf hr27) trivial trivial rfl rfl rfl rfl rfl rfl rfl) zd175_85 zxt30 rfl (by decide) (by decide) rfl ?_
            obtain ⟨r28, hr28, h⟩ := zi_bind h
            refine zv_cv hB (zv_emq (va2 := [.inr 0, .inr 17, .inl r26, .inl r27]) (F := [.inr 3, .inr 2, .inr 3, .inl r25.1, .inl r25.2.1, .inl r25.2.2.1, .inl f6, .inl f7, .inl r25.2.2.2.1, .inl f9, .inl f10, .inl f11, .inl f12, .inl f13, .inl r25.2.2.2.2.1, .inl f15, .inl r25.2.2.2.2.2.1, .inl f17, .inl f18, .inl f19, .inr 1000, .inr 1000, .inl f22, .inl f23, .inl f24, .inl f25, .inl f26, .inr 21, .inl f28, .inr 1000, .inr 1000, .inl f31, .inl f32]) (F' := [.inr 3, .inr 2, .inr 3, .inl r25.1, .inl r25.2.1, .inl r25.2.2.1, .inl f6, .inl f7, .inl r25.2.2.2.1, .inl f9, .inl f10, .inl f11, .inl f12, .inl f13, .inl r25.2.2.2.2.1, .inl f15, .inl r28.2.2.2.2.2.1, .inl f17, .inl f18, .inl f19, .inr 2, .inr 3, .inl r28.1, .inl r28.2.1, .inl r28.2.2.1, .inl r28.2.2.2.1, .inl r28.2.2.2.2.1, .inr 21, .inl f28, .inr 1000, .inr 1000, .inl f31, .inl f32]) (G := [r25.2.2.2.2.2.2.1, r25.2.2.2.2.2.2.2.1, g2, g3, g4, g5, g6, g7, g8, r25.2.2.2.2.2.2.2.2.1, g10, r25.2.2.2.2.2.2.2.2.2.1, r25.2.2.2.2.2.2.2.2.2.2, g13, g14, g15, g16, g17, g18, g19]) (G' := [r25.2.2.2.2.2.2.1, r28.2.2.2.2.2.2.2.1, g2, g3, g4, g5, g6, g7, g8, r28.2.2.2.2.2.2.2.2.1, g10, r25.2.2.2.2.2.2.2.2.2.1, r25.2.2.2.2.2.2.2.2.2.2, r28.2.2.2.2.2.2.1, r28.2.2.2.2.2.2.2.2.2.1, r28.2.2.2.2.2.2.2.2.2.2, g16, g17, g18, g19]) (ρ := [0, 17, 2, 3, 18, 5, 6, 7, 8, 9, 10, 11, 12, 13, 14, 19, 20]) (φ := [0, 20, 21, 22, 23, 24, 6, 7, 25, 9, 10, 11, 12, 13, 26, 15, 16, 17, 18, 19]) (ψ := [13, 1, 2, 3, 4, 5, 6, 7, 8, 9, 10, 14, 15]) [some 0, none, none, none, none, none, some 6, some 7, none, some 9, some 10, some 11, some 12, some 13, none, some 15, some 16, some 17, some 18, some 19, some 1, some 2, some 3, some 4, some 5, some 8, some 14, none, none, none, none, none, none] [none, some 1, some 2, some 3, some 4, some 5, some 6, some 7, some 8, some 9, some 10, none, none, some 0, some 11, some 12, none, none, none, none] zyw_X_lookAndDraw zyw_X_both zye_X_both (by decide +kernel) (zt_X_lookAndDraw hr28) ⟨⟨_, rfl, fun _ => rfl⟩, ⟨_, rfl, fun (h : zv_is (.inr 1000)) => (Nat.lt_irrefl 1000 h).elim⟩, ⟨_, rfl, fun (h : zv_is (.inr 1000)) => (Nat.lt_irrefl 1000 h).elim⟩, ⟨_, rfl, fun _ => rfl⟩, ⟨_, rfl, fun _ => rfl⟩, ⟨_, rfl, fun _ => rfl⟩, ⟨_, rfl, fun _ => rfl⟩, ⟨_, rfl, fun _ => rfl⟩, ⟨_, rfl, fun _ => rfl⟩, ⟨_, rfl, fun _ => rfl⟩, ⟨_, rfl, fun _ => rfl⟩, ⟨_, rfl, fun _ => rfl⟩, ⟨_, rfl, fun _ => rfl⟩, ⟨_, rfl, fun _ => rfl⟩, ⟨_, rfl, fun _ => rfl⟩, ⟨_, rfl, fun _ => rfl⟩, ⟨_, rfl, fun _ => rfl⟩, ⟨_, rfl, fun _ => rfl⟩, ⟨_, rfl, fun _ => rfl⟩, ⟨_, rfl, fun _ => rfl⟩, trivial⟩ ⟨rfl, rfl, rfl, rfl, rfl, rfl, rfl, rfl, rfl, rfl, rfl, rfl, rfl, trivial⟩ rfl rfl rfl rfl rfl rfl rfl) zd175_88 zxt96 rfl (by decide) (by decide) rfl ?_
            refine zv_ald hB zd175_91 rfl rfl rfl ?_
            refine zv_getr hB zd175_92 rfl ?_
            refine zv_ald hB zd175_95 rfl rfl rfl ?_
            refine zv_getr hB zd175_96 rfl ?_
            obtain ⟨r29, hr29, h⟩ := zi_bind h
            refine zv_cv hB (zv_emq (va2 := [.inr 1, .inr 17]) (F := [.inr 3, .inr 2, .inr 3, .inl r25.1, .inl r25.2.1, .inl r25.2.2.1, .inl f6, .inl f7, .inl r25.2.2.2.1, .inl f9, .inl f10, .inl f11, .inl f12, .inl f13, .inl r25.2.2.2.2.1, .inl f15, .inl r28.2.2.2.2.2.1, .inl f17, .inl f18, .inl f19, .inr 2, .inr 3, .inl r28.1, .inl r28.2.1, .inl r28.2.2.1, .inl r28.2.2.2.1, .inl r28.2.2.2.2.1, .inr 21, .inl f28, .inr 1000, .inr 1000, .inl f31, .inl f32]) (F' := [.inr 3, .inr 2, .inr 3, .inl r25.1, .inl r25.2.1, .inl r25.2.2.1, .inl f6, .inl f7, .inl r29.1, .inl f9, .inl f10, .inl f11, .inl f12, .inl f13, .inl r25.2.2.2.2.1, .inl f15, .inl r28.2.2.2.2.2.1, .inl f17, .inl f18, .inl f19, .inr 2, .inr 3, .inl r28.1, .inl r28.2.1, .inl r28.2.2.1, .inl r28.2.2.2.1, .inl r28.2.2.2.2.1, .inr 21, .inl f28, .inr 1000, .inr 1000, .inl f31, .inl f32]) (G := [r25.2.2.2.2.2.2.1, r28.2.2.2.2.2.2.2.1, g2, g3, g4, g5, g6, g7, g8, r28.2.2.2.2.2.2.2.2.1, g10, r25.2.2.2.2.2.2.2.2.2.1, r25.2.2.2.2.2.2.2.2.2.2, r28.2.2.2.2.2.2.1, r28.2.2.2.2.2.2.2.2.2.1, r28.2.2.2.2.2.2.2.2.2.2, g16, g17, g18, g19]) (G' := [r25.2.2.2.2.2.2.1, r28.2.2.2.2.2.2.2.1, g2, g3, g4, g5, g6, g7, g8, r28.2.2.2.2.2.2.2.2.1, g10, r29.2, r25.2.2.2.2.2.2.2.2.2.2, r28.2.2.2.2.2.2.1, r28.2.2.2.2.2.2.2.2.2.1, r28.2.2.2.2.2.2.2.2.2.2, g16, g17, g18, g19]) (ρ := [1, 17, 15, 19]) (φ := [8, 25]) (ψ := [11, 14]) [none, none, none, none, none, none, none, none, some 0, none, none, none, none, none, none, none, none, none, none, none, none, none, none, none, none, some 1, none, none, none, none, none, none, none] [none, none, none, none, none, none, none, none, none, none, none, some 0, none, none, some 1, none, none, none, none, none] zyw_View_keepShared zyw_X_both zye_X_both (by decide +kernel) (zt_View_keepShared hr29) ⟨⟨_, rfl, fun _ => rfl⟩, ⟨_, rfl, fun _ => rfl⟩, trivial⟩ ⟨rfl, rfl, trivial⟩ rfl rfl rfl rfl rfl rfl rfl) zd175_99 zxt176 rfl (by decide) (by decide) rfl ?_
            refine zv_ild hB zd175_102 rfl rfl ?_
            refine zv_lsw hB zd175_103 rfl ?_
            refine ⟨fun hc30 => ⟨_, rfl, ?_⟩, fun hc30 => ?_⟩
            · replace hc30 : x3 = 0 := hc30
              rw [if_pos hc30] at h
              refine zv_ald hB zd175_128 rfl rfl rfl ?_
              refine zv_getr hB zd175_129 rfl ?_
              refine zv_ald hB zd175_132 rfl rfl rfl ?_
              refine zv_getq hB zd175_133 rfl rfl rfl ?_
              refine zv_ald hB zd175_136 rfl rfl rfl ?_
              refine zv_getr hB zd175_137 rfl ?_
              refine zv_getf hB zd175_140 rfl rfl (fun _ _ => ?_)
              refine zv_ald hB zd175_143 rfl rfl rfl ?_
              refine zv_getr hB zd175_144 rfl ?_
              refine zv_getr hB zd175_147 rfl ?_
              refine zv_con hB zd175_150 rfl ?_
              obtain ⟨r31, hr31, h⟩ := zi_bind h
              refine zv_cv hB (zv_emq (va2 := [.inr 22, .inr 21, .inl r29.1, .inr 15, .inl 10000]) (F := [.inr 3, .inr 2, .inr 3, .inl r25.1, .inl r25.2.1, .inl r25.2.2.1, .inl f6, .inl f7, .inl r29.1, .inl f9, .inl f10, .inl f11, .inl f12, .inl f13, .inl r25.2.2.2.2.1, .inl f15, .inl r28.2.2.2.2.2.1, .inl f17, .inl f18, .inl f19, .inr 2, .inr 3, .inl r28.1, .inl r28.2.1, .inl r28.2.2.1, .inl r28.2.2.2.1, .inl r28.2.2.2.2.1, .inr 21, .inl f28, .inr 1000, .inr 1000, .inl f31, .inl f32]) (F' := [.inr 3, .inr 2, .inr 3, .inl r25.1, .inl r25.2.1, .inl r25.2.2.1, .inl f6, .inl f7, .inl r29.1, .inl f9, .inl f10, .inl f11, .inl f12, .inl f13, .inl r25.2.2.2.2.1, .inl f15, .inl r28.2.2.2.2.2.1, .inl f17, .inl f18, .inl f19, .inr 2, .inr 3, .inl r28.1, .inl r28.2.1, .inl r28.2.2.1, .inl r28.2.2.2.1, .inl r28.2.2.2.2.1, .inr 21, .inl f28, .inr 21, .inr 15, .inl r31.2.1, .inl f32]) (G := [r25.2.2.2.2.2.2.1, r28.2.2.2.2.2.2.2.1, g2, g3, g4, g5, g6, g7, g8, r28.2.2.2.2.2.2.2.2.1, g10, r29.2, r25.2.2.2.2.2.2.2.2.2.2, r28.2.2.2.2.2.2.1, r28.2.2.2.2.2.2.2.2.2.1, r28.2.2.2.2.2.2.2.2.2.2, g16, g17, g18, g19]) (G' := [r25.2.2.2.2.2.2.1, r28.2.2.2.2.2.2.2.1, g2, g3, g4, g5, g6, g7, g8, r28.2.2.2.2.2.2.2.2.1, g10, r29.2, r25.2.2.2.2.2.2.2.2.2.2, r28.2.2.2.2.2.2.1, r28.2.2.2.2.2.2.2.2.2.1, r28.2.2.2.2.2.2.2.2.2.2, r31.2.2.1, g17, r31.2.2.2.1, r31.2.2.2.2]) (ρ := [22, 21, 15, 23, 24, 25, 26]) (φ := [29, 30, 31, 32]) (ψ := [11, 16, 17, 18, 19]) [none, none, none, none, none, none, none, none, none, none, none, none, none, none, none, none, none, none, none, none, none, none, none, none, none, none, none, none, none, some 0, some 1, some 2, some 3] [none, none, none, none, none, none, none, none, none, none, none, some 0, none, none, none, none, some 1, some 2, some 3, some 4] zyw_Matcher_countWays_24 zyw_X_both zye_X_both (by decide +kernel) (zt_Matcher_countWays_24 hr31) ⟨⟨_, rfl, fun (h : zv_is (.inr 1000)) => (Nat.lt_irrefl 1000 h).elim⟩, ⟨_, rfl, fun (h : zv_is (.inr 1000)) => (Nat.lt_irrefl 1000 h).elim⟩, ⟨_, rfl, fun _ => rfl⟩, ⟨_, rfl, fun _ => rfl⟩, trivial⟩ ⟨rfl, rfl, rfl, rfl, rfl, trivial⟩ rfl rfl rfl rfl rfl rfl rfl) zd175_153 zxt112 rfl (by decide) (by decide) rfl ?_
              have hw := Option.some.inj h
              refine zv_wk hB (L' := [.inr 0, .inl x1, .inl x2, .inl x3, .inl 1]) (F' := [.inr 3, .inr 1000, .inr 1000, .inl r25.1, .inl r25.2.1, .inl r25.2.2.1, .inl f6, .inl f7, .inl r29.1, .inl f9, .inl f10, .inl f11, .inl f12, .inl f13, .inl r25.2.2.2.2.1, .inl f15, .inl r28.2.2.2.2.2.1, .inl f17, .inl f18, .inl f19, .inr 1000, .inr 1000, .inl r28.1, .inl r28.2.1, .inl r28.2.2.1, .inl r28.2.2.2.1, .inl r28.2.2.2.2.1, .inr 21, .inl f28, .inr 1000, .inr 1000, .inl r31.2.1, .inl f32]) ⟨fun _ => rfl, fun _ => rfl, fun _ => rfl, fun _ => rfl, fun _ => rfl, trivial⟩ ⟨fun _ => rfl, fun (h : zv_is (.inr 1000)) => (Nat.lt_irrefl 1000 h).elim, fun (h : zv_is (.inr 1000)) => (Nat.lt_irrefl 1000 h).elim, fun _ => rfl, fun _ => rfl, fun _ => rfl, fun _ => rfl, fun _ => rfl, fun _ => rfl, fun _ => rfl, fun _ => rfl, fun _ => rfl, fun _ => rfl, fun _ => rfl, fun _ => rfl, fun _ => rfl, fun _ => rfl, fun _ => rfl, fun _ => rfl, fun _ => rfl, fun (h : zv_is (.inr 1000)) => (Nat.lt_irrefl 1000 h).elim, fun (h : zv_is (.inr 1000)) => (Nat.lt_irrefl 1000 h).elim, fun _ => rfl, fun _ => rfl, fun _ => rfl, fun _ => rfl, fun _ => rfl, fun _ => rfl, fun _ => rfl, fun (h : zv_is (.inr 1000)) => (Nat.lt_irrefl 1000 h).elim, fun (h : zv_is (.inr 1000)) => (Nat.lt_irrefl 1000 h).elim, fun _ => rfl, fun _ => rfl, trivial⟩ ?_
              subst hw
              exact hret _ _ _ _ _ zd175_156 (by trivial) ⟨rfl, rfl, rfl⟩
            replace hc30 : x3 ≠ 0 := hc30
            rw [if_neg hc30] at h
            refine ⟨fun hc => absurd (show x3 = 1 from hc) (by omega), fun hc32 => ?_⟩
            replace hc32 : x3 ≠ 1 := hc32
            refine ⟨_, rfl, ?_⟩
            refine zv_ald hB zd175_165 rfl rfl rfl ?_
            refine zv_getr hB zd175_166 rfl ?_
            obtain ⟨r33, hr33, h⟩ := zi_bind h
            refine zv_cv hB (zv_emq (va2 := [.inr 1]) (F := [.inr 3, .inr 2, .inr 3, .inl r25.1, .inl r25.2.1, .inl r25.2.2.1, .inl f6, .inl f7, .inl r29.1, .inl f9, .inl f10, .inl f11, .inl f12, .inl f13, .inl r25.2.2.2.2.1, .inl f15, .inl r28.2.2.2.2.2.1, .inl f17, .inl f18, .inl f19, .inr 2, .inr 3, .inl r28.1, .inl r28.2.1, .inl r28.2.2.1, .inl r28.2.2.2.1, .inl r28.2.2.2.2.1, .inr 21, .inl f28, .inr 1000, .inr 1000, .inl f31, .inl f32]) (F' := [.inr 3, .inr 2, .inr 3, .inl r25.1, .inl r25.2.1, .inl r25.2.2.1, .inl f6, .inl f7, .inl r29.1, .inl f9, .inl f10, .inl f11, .inl f12, .inl f13, .inl r25.2.2.2.2.1, .inl f15, .inl r28.2.2.2.2.2.1, .inl f17, .inl f18, .inl f19, .inr 2, .inr 3, .inl r28.1, .inl r28.2.1, .inl r28.2.2.1, .inl r28.2.2.2.1, .inl r28.2.2.2.2.1, .inr 21, .inl f28, .inr 1000, .inr 1000, .inl f31, .inl f32]) (G := [r25.2.2.2.2.2.2.1, r28.2.2.2.2.2.2.2.1, g2, g3, g4, g5, g6, g7, g8, r28.2.2.2.2.2.2.2.2.1, g10, r29.2, r25.2.2.2.2.2.2.2.2.2.2, r28.2.2.2.2.2.2.1, r28.2.2.2.2.2.2.2.2.2.1, r28.2.2.2.2.2.2.2.2.2.2, g16, g17, g18, g19]) (G' := [r25.2.2.2.2.2.2.1, r28.2.2.2.2.2.2.2.1, g2, g3, g4, g5, g6, g7, g8, r28.2.2.2.2.2.2.2.2.1, g10, r29.2, r25.2.2.2.2.2.2.2.2.2.2, r28.2.2.2.2.2.2.1, r28.2.2.2.2.2.2.2.2.2.1, r28.2.2.2.2.2.2.2.2.2.2, g16, g17, g18, g19]) (ρ := [1, 15]) (φ := []) (ψ := [11]) [none, none, none, none, none, none, none, none, none, none, none, none, none, none, none, none, none, none, none, none, none, none, none, none, none, none, none, none, none, none, none, none, none] [none, none, none, none, none, none, none, none, none, none, none, some 0, none, none, none, none, none, none, none, none] zyw_View_countLines zyw_X_both zye_X_both (by decide +kernel) (zt_View_countLines hr33) trivial ⟨rfl, trivial⟩ rfl rfl rfl rfl rfl rfl rfl) zd175_169 zxt101 rfl (by decide) (by decide) rfl ?_
            have hw := Option.some.inj h
            refine zv_wk hB (L' := [.inr 0, .inl x1, .inl x2, .inl x3, .inl 1]) (F' := [.inr 3, .inr 1000, .inr 1000, .inl r25.1, .inl r25.2.1, .inl r25.2.2.1, .inl f6, .inl f7, .inl r29.1, .inl f9, .inl f10, .inl f11, .inl f12, .inl f13, .inl r25.2.2.2.2.1, .inl f15, .inl r28.2.2.2.2.2.1, .inl f17, .inl f18, .inl f19, .inr 1000, .inr 1000, .inl r28.1, .inl r28.2.1, .inl r28.2.2.1, .inl r28.2.2.2.1, .inl r28.2.2.2.2.1, .inr 21, .inl f28, .inr 1000, .inr 1000, .inl f31, .inl f32]) ⟨fun _ => rfl, fun _ => rfl, fun _ => rfl, fun _ => rfl, fun _ => rfl, trivial⟩ ⟨fun _ => rfl, fun (h : zv_is (.inr 1000)) => (Nat.lt_irrefl 1000 h).elim, fun (h : zv_is (.inr 1000)) => (Nat.lt_irrefl 1000 h).elim, fun _ => rfl, fun _ => rfl, fun _ => rfl, fun _ => rfl, fun _ => rfl, fun _ => rfl, fun _ => rfl, fun _ => rfl, fun _ => rfl, fun _ => rfl, fun _ => rfl, fun _ => rfl, fun _ => rfl, fun _ => rfl, fun _ => rfl, fun _ => rfl, fun _ => rfl, fun (h : zv_is (.inr 1000)) => (Nat.lt_irrefl 1000 h).elim, fun (h : zv_is (.inr 1000)) => (Nat.lt_irrefl 1000 h).elim, fun _ => rfl, fun _ => rfl, fun _ => rfl, fun _ => rfl, fun _ => rfl, fun _ => rfl, fun _ => rfl, fun (h : zv_is (.inr 1000)) => (Nat.lt_irrefl 1000 h).elim, fun (h : zv_is (.inr 1000)) => (Nat.lt_irrefl 1000 h).elim, fun _ => rfl, fun _ => rfl, trivial⟩ ?_
            subst hw
            exact hret _ _ _ _ _ zd175_172 (by trivial) ⟨rfl, rfl, rfl⟩
          · rw [if_pos hc22] at h
            refine zv_con hB zd175_57 rfl ?_
            have hw := Option.some.inj h
            subst hw
            exact hret _ _ _ _ _ zd175_58 (by trivial) ⟨rfl, rfl, rfl⟩
end
section
/-! Methods as functions, and that they do what these do. -/
/-! Matcher_notIn (LStarTales$View;I)I -/
-- names: 0 View('arg', 0), 1 Sky(0, 7, 0), 2 (0, 24)(1, 1, 1)
-- fields: f0 = 0.shown_, f1 = 0.sky_, f2 = 1.hour_; arrays: g0 = 2; out: [('ret', None)]
abbrev zy_Matcher_notIn : zNL := (3, [(0, 7), (1, 1)], [(0, 7, 4, 0), (0, 7, 0, 1), (1, 1, 6, 2)], [(1, 1, 1, 2)], [(2, 0, 24, 0)])
theorem zyw_Matcher_notIn : zv_wf zy_Matcher_notIn = true := by decide +kernel
theorem zye_Matcher_notIn : zv_ek2 zy_Matcher_notIn = true := by decide +kernel
def zf_Matcher_notIn_l0_b (x1 : Int) (f0 : Int) (f2 : Int) (g0 : (Int → Int)) (rec : Int → Int → Option (Int)) (x2 : Int) (x3 : Int) : Option (Int) := if x3 < 24 then (if (zi_and (zi_shr f0 x3) 1) = 0 then (rec x2 (zi_w (x3 + 1))) else ((zf_Sky_standing x3 f2 g0).bind fun r3 => (if (zi_and (zi_shr x1 r3) 1) = 0 then (rec (zi_or x2 (zi_shl 1 x3)) (zi_w (x3 + 1))) else (rec x2 (zi_w (x3 + 1)))))) else (some x2)
def zf_Matcher_notIn_l0 (x1 : Int) (f0 : Int) (f2 : Int) (g0 : (Int → Int)) : Nat → Int → Int → Option (Int)
  | 0, _, _ => none
  | n + 1, x2, x3 => zf_Matcher_notIn_l0_b x1 f0 f2 g0 (zf_Matcher_notIn_l0 x1 f0 f2 g0 n) x2 x3
def zf_Matcher_notIn (x1 : Int) (f0 : Int) (f2 : Int) (g0 : (Int → Int)) : Option (Int) := (zf_Matcher_notIn_l0 x1 f0 f2 g0 zi_fu 0 0).bind fun q5 => (some q5)
theorem zd180_0 : decode zxm180.2.1 0 = .ok (.iconst 0, 1) := by decide +kernel
theorem zd180_1 : decode zxm180.2.1 1 = .ok (.istore_n 2, 1) := by decide +kernel
theorem zd180_2 : decode zxm180.2.1 2 = .ok (.iconst 0, 1) := by decide +kernel
theorem zd180_3 : decode zxm180.2.1 3 = .ok (.istore_n 3, 1) := by decide +kernel
theorem zd180_4 : decode zxm180.2.1 4 = .ok (.iload_n 3, 1) := by decide +kernel
theorem zd180_5 : decode zxm180.2.1 5 = .ok (.bipush 24, 2) := by decide +kernel
theorem zd180_7 : decode zxm180.2.1 7 = .ok (.if_icmp .ge 41, 3) := by decide +kernel
theorem zd180_10 : decode zxm180.2.1 10 = .ok (.aload_n 0, 1) := by decide +kernel
theorem zd180_11 : decode zxm180.2.1 11 = .ok (.getfield 107, 3) := by decide +kernel
theorem zd180_14 : decode zxm180.2.1 14 = .ok (.iload_n 3, 1) := by decide +kernel
theorem zd180_15 : decode zxm180.2.1 15 = .ok (.ishr, 1) := by decide +kernel
theorem zd180_16 : decode zxm180.2.1 16 = .ok (.iconst 1, 1) := by decide +kernel
theorem zd180_17 : decode zxm180.2.1 17 = .ok (.iand, 1) := by decide +kernel
theorem zd180_18 : decode zxm180.2.1 18 = .ok (.ifCond .eq 24, 3) := by decide +kernel
theorem zd180_21 : decode zxm180.2.1 21 = .ok (.iload_n 1, 1) := by decide +kernel
theorem zd180_22 : decode zxm180.2.1 22 = .ok (.aload_n 0, 1) := by decide +kernel
theorem zd180_23 : decode zxm180.2.1 23 = .ok (.getfield 99, 3) := by decide +kernel
theorem zd180_26 : decode zxm180.2.1 26 = .ok (.iload_n 3, 1) := by decide +kernel
theorem zd180_27 : decode zxm180.2.1 27 = .ok (.invokevirtual 110, 3) := by decide +kernel
theorem zd180_30 : decode zxm180.2.1 30 = .ok (.ishr, 1) := by decide +kernel
theorem zd180_31 : decode zxm180.2.1 31 = .ok (.iconst 1, 1) := by decide +kernel
theorem zd180_32 : decode zxm180.2.1 32 = .ok (.iand, 1) := by decide +kernel
theorem zd180_33 : decode zxm180.2.1 33 = .ok (.ifCond .ne 9, 3) := by decide +kernel
theorem zd180_36 : decode zxm180.2.1 36 = .ok (.iload_n 2, 1) := by decide +kernel
theorem zd180_37 : decode zxm180.2.1 37 = .ok (.iconst 1, 1) := by decide +kernel
theorem zd180_38 : decode zxm180.2.1 38 = .ok (.iload_n 3, 1) := by decide +kernel
theorem zd180_39 : decode zxm180.2.1 39 = .ok (.ishl, 1) := by decide +kernel
theorem zd180_40 : decode zxm180.2.1 40 = .ok (.ior, 1) := by decide +kernel
theorem zd180_41 : decode zxm180.2.1 41 = .ok (.istore_n 2, 1) := by decide +kernel
theorem zd180_42 : decode zxm180.2.1 42 = .ok (.iinc 3 1, 3) := by decide +kernel
theorem zd180_45 : decode zxm180.2.1 45 = .ok (.goto (-41), 3) := by decide +kernel
theorem zd180_48 : decode zxm180.2.1 48 = .ok (.iload_n 2, 1) := by decide +kernel
theorem zd180_49 : decode zxm180.2.1 49 = .ok (.ireturn, 1) := by decide +kernel
theorem zt_Matcher_notIn {x1 : Int} {f0 : Int} {f2 : Int} {g0 : (Int → Int)} {o : Int} (h : zf_Matcher_notIn x1 f0 f2 g0 = some o) : zv_Fn z_TB z_cl z_KX zy_Matcher_notIn zxm180 (1, 60) [.inr 0, .inl x1] [.inl f0, .inr 1, .inl f2] [g0] (some o) [.inl f0, .inr 1, .inl f2] [g0] := zv_meth (K := (z_KF4, z_KC4, z_KL4, z_KT4, [], [], [], none)) (FT := z_FT) (MT := z_MT) (n := 2) zxp180 (z_ks4 _ (fun _ h => List.mem_cons_of_mem _ h) _ _ _ _ (fun j r h _ => by cases h)) (fun _ _ => zs_KX_p) zyw_Matcher_notIn (fun va F G h => by obtain ⟨rfl, _⟩ := h; rfl) (fun va F G h => by obtain ⟨rfl, _⟩ := h; rfl) rfl fun good va F G hB hret hvret hP => by
  obtain ⟨rfl, rfl, rfl⟩ := hP
  have l0 : ∀ (n : Nat) (x1 : Int) (x2 : Int) (x3 : Int) (q : Int), zf_Matcher_notIn_l0 x1 f0 f2 g0 n x2 x3 = some q → (good 48 [.inr 1000, .inr 1000, .inl q, .inr 1000] [] [.inl f0, .inr 1, .inl f2] [g0]) → good 4 [.inr 0, .inl x1, .inl x2, .inl x3] [] [.inl f0, .inr 1, .inl f2] [g0] := by
    intro n
    induction n with
    | zero => intro x1 x2 x3 q h; exact absurd (show none = some q from h) (fun h => by cases h)
    | succ n ih =>
      intro x1 x2 x3 q h hK
      replace h : zf_Matcher_notIn_l0_b x1 f0 f2 g0 (zf_Matcher_notIn_l0 x1 f0 f2 g0 n) x2 x3 = some q := h
      unfold zf_Matcher_notIn_l0_b at h
      refine zv_ild hB zd180_4 rfl rfl ?_
      refine zv_con hB zd180_5 rfl ?_
      refine zv_cge hB zd180_7 rfl (fun hc1 => ?_) (fun hc1 => ?_)
      · rw [if_neg (Int.not_lt.mpr hc1)] at h
        have hq := Option.some.inj h
        subst hq
        refine zv_wk hB (L' := [.inr 1000, .inr 1000, .inl x2, .inr 1000]) (F' := [.inl f0, .inr 1, .inl f2]) ⟨fun (h : zv_is (.inr 1000)) => (Nat.lt_irrefl 1000 h).elim, fun (h : zv_is (.inr 1000)) => (Nat.lt_irrefl 1000 h).elim, fun _ => rfl, fun (h : zv_is (.inr 1000)) => (Nat.lt_irrefl 1000 h).elim, trivial⟩ ⟨fun _ => rfl, fun _ => rfl, fun _ => rfl, trivial⟩ ?_
        exact hK
      · rw [if_pos hc1] at h
        refine zv_ald hB zd180_10 rfl rfl rfl ?_
        refine zv_getf hB zd180_11 rfl rfl (fun _ _ => ?_)
        refine zv_ild hB zd180_14 rfl rfl ?_
        refine zv_shrw hB zd180_15 ?_
        refine zv_con hB zd180_16 rfl ?_
        refine zv_andw hB zd180_17 ?_
        refine zv_zeq hB zd180_18 rfl (fun hc2 => ?_) (fun hc2 => ?_)
        · rw [if_pos hc2] at h
          refine zv_iincw hB zd180_42 rfl rfl ?_
          refine zv_goto hB zd180_45 rfl ?_
          exact ih _ _ _ q h hK
        · rw [if_neg hc2] at h
          refine zv_ild hB zd180_21 rfl rfl ?_
          refine zv_ald hB zd180_22 rfl rfl rfl ?_
          refine zv_getq hB zd180_23 rfl rfl rfl ?_
          refine zv_ild hB zd180_26 rfl rfl ?_
          obtain ⟨r3, hr3, h⟩ := zi_bind h
          refine zv_cv hB (zv_emq (va2 := [.inr 1, .inl x3]) (F := [.inl f0, .inr 1, .inl f2]) (F' := [.inl f0, .inr 1, .inl f2]) (G := [g0]) (G' := [g0]) (ρ := [1, 2]) (φ := [2]) (ψ := [0]) [none, none, some 0] [some 0] zyw_Sky_standing zyw_Matcher_notIn zye_Matcher_notIn (by decide +kernel) (zt_Sky_standing hr3) ⟨⟨_, rfl, fun _ => rfl⟩, trivial⟩ ⟨rfl, trivial⟩ rfl rfl rfl rfl rfl rfl rfl) zd180_27 zxt82 rfl (by decide) (by decide) rfl ?_
          refine zv_shrw hB zd180_30 ?_
          refine zv_con hB zd180_31 rfl ?_
          refine zv_andw hB zd180_32 ?_
          refine zv_zne hB zd180_33 rfl (fun hc4 => ?_) (fun hc4 => ?_)
          · rw [if_neg hc4] at h
            refine zv_iincw hB zd180_42 rfl rfl ?_
            refine zv_goto hB zd180_45 rfl ?_
            exact ih _ _ _ q h hK
          · rw [if_pos hc4] at h
            refine zv_ild hB zd180_36 rfl rfl ?_
            refine zv_con hB zd180_37 rfl ?_
            refine zv_ild hB zd180_38 rfl rfl ?_
            refine zv_shlw hB zd180_39 ?_
            refine zv_orw hB zd180_40 ?_
            refine zv_ist hB zd180_41 rfl rfl rfl ?_
            refine zv_iincw hB zd180_42 rfl rfl ?_
            refine zv_goto hB zd180_45 rfl ?_
            exact ih _ _ _ q h hK
  unfold zf_Matcher_notIn at h
  refine zv_con hB zd180_0 rfl ?_
  refine zv_ist hB zd180_1 rfl rfl rfl ?_
  refine zv_con hB zd180_2 rfl ?_
  refine zv_ist hB zd180_3 rfl rfl rfl ?_
  obtain ⟨q5, hq5, h⟩ := zi_bind h
  refine l0 _ _ _ _ q5 hq5 ?_
  show good 48 [.inr 1000, .inr 1000, .inl q5, .inr 1000] [] [.inl f0, .inr 1, .inl f2] [g0]
  refine zv_ild hB zd180_48 rfl rfl ?_
  have hw := Option.some.inj h
  subst hw
  exact hret _ _ _ _ _ zd180_49 (by trivial) ⟨rfl, rfl, rfl⟩
/-! Matcher_columnsOfWay (LStarTales$Tale;LStarTales$Sky;)I -/
-- names: 0 Matcher('arg', 0), 1 Tale('arg', 1), 2 Sky('arg', 2), 3 (0, 8)(0, 8, 2), 4 (0, 24)(2, 1, 1)
-- fields: f0 = 1.names_, f1 = 2.hour_; arrays: g0 = 3, g1 = 4; out: [('ret', None)]
abbrev zy_Matcher_columnsOfWay : zNL := (5, [(0, 8), (1, 6), (2, 1)], [(1, 6, 1, 0), (2, 1, 6, 1)], [(0, 8, 2, 3), (2, 1, 1, 4)], [(3, 0, 8, 0), (4, 0, 24, 1)])
theorem zyw_Matcher_columnsOfWay : zv_wf zy_Matcher_columnsOfWay = true := by decide +kernel
theorem zye_Matcher_columnsOfWay : zv_ek2 zy_Matcher_columnsOfWay = true := by decide +kernel
def zf_Matcher_columnsOfWay_l0_b (f0 : Int) (f1 : Int) (g0 : (Int → Int)) (g1 : (Int → Int)) (rec : Int → Int → Option (Int)) (x3 : Int) (x4 : Int) : Option (Int) := if x4 < 8 then (if (zi_and (zi_shr f0 x4) 1) = 0 then (rec x3 (zi_w (x4 + 1))) else (cond (zi_ix x4 8) ((zf_Sky_standing (g0 x4) f1 g1).bind fun r4 => (rec (zi_or x3 (zi_shl 1 r4)) (zi_w (x4 + 1)))) none)) else (some x3)
def zf_Matcher_columnsOfWay_l0 (f0 : Int) (f1 : Int) (g0 : (Int → Int)) (g1 : (Int → Int)) : Nat → Int → Int → Option (Int)
  | 0, _, _ => none
  | n + 1, x3, x4 => zf_Matcher_columnsOfWay_l0_b f0 f1 g0 g1 (zf_Matcher_columnsOfWay_l0 f0 f1 g0 g1 n) x3 x4
def zf_Matcher_columnsOfWay (f0 : Int) (f1 : Int) (g0 : (Int → Int)) (g1 : (Int → Int)) : Option (Int) := (zf_Matcher_columnsOfWay_l0 f0 f1 g0 g1 zi_fu 0 0).bind fun q5 => (some q5)
theorem zd181_0 : decode zxm181.2.1 0 = .ok (.iconst 0, 1) := by decide +kernel
theorem zd181_1 : decode zxm181.2.1 1 = .ok (.istore_n 3, 1) := by decide +kernel
theorem zd181_2 : decode zxm181.2.1 2 = .ok (.iconst 0, 1) := by decide +kernel
theorem zd181_3 : decode zxm181.2.1 3 = .ok (.istore 4, 2) := by decide +kernel
theorem zd181_5 : decode zxm181.2.1 5 = .ok (.iload 4, 2) := by decide +kernel
theorem zd181_7 : decode zxm181.2.1 7 = .ok (.bipush 8, 2) := by decide +kernel
theorem zd181_9 : decode zxm181.2.1 9 = .ok (.if_icmp .ge 37, 3) := by decide +kernel
theorem zd181_12 : decode zxm181.2.1 12 = .ok (.aload_n 1, 1) := by decide +kernel
theorem zd181_13 : decode zxm181.2.1 13 = .ok (.getfield 41, 3) := by decide +kernel
theorem zd181_16 : decode zxm181.2.1 16 = .ok (.iload 4, 2) := by decide +kernel
theorem zd181_18 : decode zxm181.2.1 18 = .ok (.ishr, 1) := by decide +kernel
theorem zd181_19 : decode zxm181.2.1 19 = .ok (.iconst 1, 1) := by decide +kernel
theorem zd181_20 : decode zxm181.2.1 20 = .ok (.iand, 1) := by decide +kernel
theorem zd181_21 : decode zxm181.2.1 21 = .ok (.ifCond .eq 19, 3) := by decide +kernel
theorem zd181_24 : decode zxm181.2.1 24 = .ok (.iload_n 3, 1) := by decide +kernel
theorem zd181_25 : decode zxm181.2.1 25 = .ok (.iconst 1, 1) := by decide +kernel
theorem zd181_26 : decode zxm181.2.1 26 = .ok (.aload_n 2, 1) := by decide +kernel
theorem zd181_27 : decode zxm181.2.1 27 = .ok (.aload_n 0, 1) := by decide +kernel
theorem zd181_28 : decode zxm181.2.1 28 = .ok (.getfield 20, 3) := by decide +kernel
theorem zd181_31 : decode zxm181.2.1 31 = .ok (.iload 4, 2) := by decide +kernel
theorem zd181_33 : decode zxm181.2.1 33 = .ok (.iaload, 1) := by decide +kernel
theorem zd181_34 : decode zxm181.2.1 34 = .ok (.invokevirtual 110, 3) := by decide +kernel
theorem zd181_37 : decode zxm181.2.1 37 = .ok (.ishl, 1) := by decide +kernel
theorem zd181_38 : decode zxm181.2.1 38 = .ok (.ior, 1) := by decide +kernel
theorem zd181_39 : decode zxm181.2.1 39 = .ok (.istore_n 3, 1) := by decide +kernel
theorem zd181_40 : decode zxm181.2.1 40 = .ok (.iinc 4 1, 3) := by decide +kernel
theorem zd181_43 : decode zxm181.2.1 43 = .ok (.goto (-38), 3) := by decide +kernel
theorem zd181_46 : decode zxm181.2.1 46 = .ok (.iload_n 3, 1) := by decide +kernel
theorem zd181_47 : decode zxm181.2.1 47 = .ok (.ireturn, 1) := by decide +kernel
theorem zt_Matcher_columnsOfWay {f0 : Int} {f1 : Int} {g0 : (Int → Int)} {g1 : (Int → Int)} {o : Int} (h : zf_Matcher_columnsOfWay f0 f1 g0 g1 = some o) : zv_Fn z_TB z_cl z_KX zy_Matcher_columnsOfWay zxm181 (1, 60) [.inr 0, .inr 1, .inr 2] [.inl f0, .inl f1] [g0, g1] (some o) [.inl f0, .inl f1] [g0, g1] := zv_meth (K := (z_KF4, z_KC4, z_KL4, z_KT4, [], [], [], none)) (FT := z_FT) (MT := z_MT) (n := 3) zxp181 (z_ks4 _ (fun _ h => List.mem_cons_of_mem _ h) _ _ _ _ (fun j r h _ => by cases h)) (fun _ _ => zs_KX_p) zyw_Matcher_columnsOfWay (fun va F G h => by obtain ⟨rfl, _⟩ := h; rfl) (fun va F G h => by obtain ⟨rfl, _⟩ := h; rfl) rfl fun good va F G hB hret hvret hP => by
  obtain ⟨rfl, rfl, rfl⟩ := hP
  have l0 : ∀ (n : Nat) (x3 : Int) (x4 : Int) (q : Int), zf_Matcher_columnsOfWay_l0 f0 f1 g0 g1 n x3 x4 = some q → (good 46 [.inr 1000, .inr 1000, .inr 1000, .inl q, .inr 1000] [] [.inl f0, .inl f1] [g0, g1]) → good 5 [.inr 0, .inr 1, .inr 2, .inl x3, .inl x4] [] [.inl f0, .inl f1] [g0, g1] := by
    intro n
    induction n with
    | zero => intro x3 x4 q h; exact absurd (show none = some q from h) (fun h => by cases h)
    | succ n ih =>
      intro x3 x4 q h hK
      replace h : zf_Matcher_columnsOfWay_l0_b f0 f1 g0 g1 (zf_Matcher_columnsOfWay_l0 f0 f1 g0 g1 n) x3 x4 = some q := h
      unfold zf_Matcher_columnsOfWay_l0_b at h
      refine zv_ild hB zd181_5 rfl rfl ?_
      refine zv_con hB zd181_7 rfl ?_
      refine zv_cge hB zd181_9 rfl (fun hc1 => ?_) (fun hc1 => ?_)
      · rw [if_neg (Int.not_lt.mpr hc1)] at h
        have hq := Option.some.inj h
        subst hq
        refine zv_wk hB (L' := [.inr 1000, .inr 1000, .inr 1000, .inl x3, .inr 1000]) (F' := [.inl f0, .inl f1]) ⟨fun (h : zv_is (.inr 1000)) => (Nat.lt_irrefl 1000 h).elim, fun (h : zv_is (.inr 1000)) => (Nat.lt_irrefl 1000 h).elim, fun (h : zv_is (.inr 1000)) => (Nat.lt_irrefl 1000 h).elim, fun _ => rfl, fun (h : zv_is (.inr 1000)) => (Nat.lt_irrefl 1000 h).elim, trivial⟩ ⟨fun _ => rfl, fun _ => rfl, trivial⟩ ?_
        exact hK
      · rw [if_pos hc1] at h
        refine zv_ald hB zd181_12 rfl rfl rfl ?_
        refine zv_getf hB zd181_13 rfl rfl (fun _ _ => ?_)
        refine zv_ild hB zd181_16 rfl rfl ?_
        refine zv_shrw hB zd181_18 ?_
        refine zv_con hB zd181_19 rfl ?_
        refine zv_andw hB zd181_20 ?_
        refine zv_zeq hB zd181_21 rfl (fun hc2 => ?_) (fun hc2 => ?_)
        · rw [if_pos hc2] at h
          refine zv_iincw hB zd181_40 rfl rfl ?_
          refine zv_goto hB zd181_43 rfl ?_
          exact ih _ _ q h hK
        · rw [if_neg hc2] at h
          refine zv_ild hB zd181_24 rfl rfl ?_
          refine zv_con hB zd181_25 rfl ?_
          refine zv_ald hB zd181_26 rfl rfl rfl ?_
          refine zv_ald hB zd181_27 rfl rfl rfl ?_
          refine zv_getr hB zd181_28 rfl ?_
          refine zv_ild hB zd181_31 rfl rfl ?_
          obtain ⟨c3, h⟩ := zi_if h
          refine zv_iald hB zd181_33 rfl rfl (zi_ix_ok c3).1 (zi_ix_ok c3).2 (fun _ _ => ?_)
          obtain ⟨r4, hr4, h⟩ := zi_bind h
          refine zv_cv hB (zv_emq (va2 := [.inr 2, .inl (g0 x4)]) (F := [.inl f0, .inl f1]) (F' := [.inl f0, .inl f1]) (G := [g0, g1]) (G' := [g0, g1]) (ρ := [2, 4]) (φ := [1]) (ψ := [1]) [none, some 0] [none, some 0] zyw_Sky_standing zyw_Matcher_columnsOfWay zye_Matcher_columnsOfWay (by decide +kernel) (zt_Sky_standing hr4) ⟨⟨_, rfl, fun _ => rfl⟩, trivial⟩ ⟨rfl, trivial⟩ rfl rfl rfl rfl rfl rfl rfl) zd181_34 zxt82 rfl (by decide) (by decide) rfl ?_
          refine zv_shlw hB zd181_37 ?_
          refine zv_orw hB zd181_38 ?_
          refine zv_ist hB zd181_39 rfl rfl rfl ?_
          refine zv_iincw hB zd181_40 rfl rfl ?_
          refine zv_goto hB zd181_43 rfl ?_
          exact ih _ _ q h hK
  unfold zf_Matcher_columnsOfWay at h
  refine zv_con hB zd181_0 rfl ?_
  refine zv_ist hB zd181_1 rfl rfl rfl ?_
  refine zv_con hB zd181_2 rfl ?_
  refine zv_ist hB zd181_3 rfl rfl rfl ?_
  obtain ⟨q5, hq5, h⟩ := zi_bind h
  refine l0 _ _ _ q5 hq5 ?_
  show good 46 [.inr 1000, .inr 1000, .inr 1000, .inl q5, .inr 1000] [] [.inl f0, .inl f1] [g0, g1]
  refine zv_ild hB zd181_46 rfl rfl ?_
  have hw := Option.some.inj h
  subst hw
  exact hret _ _ _ _ _ zd181_47 (by trivial) ⟨rfl, rfl, rfl⟩
/-! Matcher_hide (LStarTales$Tale;LStarTales$View;II)V -/
-- names: 0 Matcher('arg', 0), 1 Tale('arg', 1), 2 View('arg', 2), 3 Sky(2, 7, 0), 4 (0, 24)(3, 1, 1), 5 (0, 24)(2, 7, 5), 6 (0, 72)(0, 8, 0), 7 (0, 8)(1, 6, 2), 8 (0, 24)(0, 8, 1), 9 (0, 8)(0, 8, 2)
-- fields: f0 = 0.fewest_, f1 = 2.sky_, f2 = 2.shown_, f3 = 3.hour_, f4 = 0.tale_, f5 = 0.joined_, f6 = 0.deadEnds_, f7 = 1.names_; arrays: g0 = 4, g1 = 5, g2 = 6, g3 = 7, g4 = 8, g5 = 9; out: [('f', 0), ('f', 6), ('g', 2), ('g', 4), ('g', 5)]
abbrev zy_Matcher_hide : zNL := (10, [(0, 8), (1, 6), (2, 7), (3, 1)], [(0, 8, 5, 0), (2, 7, 0, 1), (2, 7, 4, 2), (3, 1, 6, 3), (0, 8, 3, 4), (0, 8, 4, 5), (0, 8, 6, 6), (1, 6, 1, 7)], [(3, 1, 1, 4), (2, 7, 5, 5), (0, 8, 0, 6), (1, 6, 2, 7), (0, 8, 1, 8), (0, 8, 2, 9)], [(4, 0, 24, 0), (5, 0, 24, 1), (6, 0, 72, 2), (7, 0, 8, 3), (8, 0, 24, 4), (9, 0, 8, 5)])
theorem zyw_Matcher_hide : zv_wf zy_Matcher_hide = true := by decide +kernel
theorem zye_Matcher_hide : zv_ek2 zy_Matcher_hide = true := by decide +kernel
def zm_Matcher_hide_l0_b (rc : Nat → Int → Int → Int → Int → Int → Int → Int → (Int → Int) → (Int → Int) → (Int → Int) → (Int → Int) → (Int → Int) → (Int → Int) → Option (Int × Int × (Int → Int) × (Int → Int) × (Int → Int))) (x3 : Int) (x4 : Int) (x6 : Int) (f2 : Int) (f3 : Int) (f7 : Int) (g0 : (Int → Int)) (g1 : (Int → Int)) (g3 : (Int → Int)) (rec : Int → Int → Int → (Int → Int) → (Int → Int) → (Int → Int) → Option (Int × Int × (Int → Int) × (Int → Int) × (Int → Int))) (x7 : Int) (f0 : Int) (f6 : Int) (g2 : (Int → Int)) (g4 : (Int → Int)) (g5 : (Int → Int)) : Option (Int × Int × (Int → Int) × (Int → Int) × (Int → Int)) := if x7 < 24 then (if (zi_and (zi_shr x6 x7) 1) = 0 then (rec (zi_w (x7 + 1)) f0 f6 g2 g4 g5) else ((rc 0 (zi_or x3 (zi_shl 1 x7)) (zi_w (x4 - 1)) f0 f2 f3 f6 f7 g0 g1 g2 g3 g4 g5).bind fun r9 => (rec (zi_w (x7 + 1)) r9.1 r9.2.1 r9.2.2.1 r9.2.2.2.1 r9.2.2.2.2))) else (some (f0, f6, g2, g4, g5))
def zm_Matcher_hide_l0 (rc : Nat → Int → Int → Int → Int → Int → Int → Int → (Int → Int) → (Int → Int) → (Int → Int) → (Int → Int) → (Int → Int) → (Int → Int) → Option (Int × Int × (Int → Int) × (Int → Int) × (Int → Int))) (x3 : Int) (x4 : Int) (x6 : Int) (f2 : Int) (f3 : Int) (f7 : Int) (g0 : (Int → Int)) (g1 : (Int → Int)) (g3 : (Int → Int)) : Nat → Int → Int → Int → (Int → Int) → (Int → Int) → (Int → Int) → Option (Int × Int × (Int → Int) × (Int → Int) × (Int → Int))
  | 0, _, _, _, _, _, _ => none
  | n + 1, x7, f0, f6, g2, g4, g5 => zm_Matcher_hide_l0_b rc x3 x4 x6 f2 f3 f7 g0 g1 g3 (zm_Matcher_hide_l0 rc x3 x4 x6 f2 f3 f7 g0 g1 g3 n) x7 f0 f6 g2 g4 g5
def zm_Matcher_hide (rc : Nat → Int → Int → Int → Int → Int → Int → Int → (Int → Int) → (Int → Int) → (Int → Int) → (Int → Int) → (Int → Int) → (Int → Int) → Option (Int × Int × (Int → Int) × (Int → Int) × (Int → Int))) (x3 : Int) (x4 : Int) (f0 : Int) (f2 : Int) (f3 : Int) (f6 : Int) (f7 : Int) (g0 : (Int → Int)) (g1 : (Int → Int)) (g2 : (Int → Int)) (g3 : (Int → Int)) (g4 : (Int → Int)) (g5 : (Int → Int)) : Option (Int × Int × (Int → Int) × (Int → Int) × (Int → Int)) := if f0 = (-1) then ((zf_Matcher_notIn x3 f2 f3 g0).bind fun r2 => ((zf_Matcher_countWays_24 r2 1 f6 f7 g1 g2 g3 g4 g5).bind fun r3 => (if r3.1 = 0 then (some (x3, r3.2.1, r3.2.2.1, r3.2.2.2.1, r3.2.2.2.2)) else (if 0 < x4 then ((zf_Matcher_columnsOfWay f7 f3 r3.2.2.2.2 g0).bind fun r6 => ((zm_Matcher_hide_l0 rc x3 x4 r6 f2 f3 f7 g0 g1 g3 zi_fu 0 f0 r3.2.1 r3.2.2.1 r3.2.2.2.1 r3.2.2.2.2).bind fun q10 => (some (q10.1, q10.2.1, q10.2.2.1, q10.2.2.2.1, q10.2.2.2.2)))) else (some (f0, r3.2.1, r3.2.2.1, r3.2.2.2.1, r3.2.2.2.2)))))) else (if x3 < f0 then ((zf_Matcher_notIn x3 f2 f3 g0).bind fun r12 => ((zf_Matcher_countWays_24 r12 1 f6 f7 g1 g2 g3 g4 g5).bind fun r13 => (if r13.1 = 0 then (some (x3, r13.2.1, r13.2.2.1, r13.2.2.2.1, r13.2.2.2.2)) else (if 0 < x4 then ((zf_Matcher_columnsOfWay f7 f3 r13.2.2.2.2 g0).bind fun r16 => ((zm_Matcher_hide_l0 rc x3 x4 r16 f2 f3 f7 g0 g1 g3 zi_fu 0 f0 r13.2.1 r13.2.2.1 r13.2.2.2.1 r13.2.2.2.2).bind fun q17 => (some (q17.1, q17.2.1, q17.2.2.1, q17.2.2.2.1, q17.2.2.2.2)))) else (some (f0, r13.2.1, r13.2.2.1, r13.2.2.2.1, r13.2.2.2.2)))))) else (some (f0, f6, g2, g4, g5)))
theorem zd179_0 : decode zxm179.2.1 0 = .ok (.aload_n 0, 1) := by decide +kernel
theorem zd179_1 : decode zxm179.2.1 1 = .ok (.getfield 23, 3) := by decide +kernel
theorem zd179_4 : decode zxm179.2.1 4 = .ok (.iconst (-1), 1) := by decide +kernel
theorem zd179_5 : decode zxm179.2.1 5 = .ok (.if_icmp .eq 12, 3) := by decide +kernel
theorem zd179_8 : decode zxm179.2.1 8 = .ok (.iload_n 3, 1) := by decide +kernel
theorem zd179_9 : decode zxm179.2.1 9 = .ok (.aload_n 0, 1) := by decide +kernel
theorem zd179_10 : decode zxm179.2.1 10 = .ok (.getfield 23, 3) := by decide +kernel
theorem zd179_13 : decode zxm179.2.1 13 = .ok (.if_icmp .lt 4, 3) := by decide +kernel
theorem zd179_16 : decode zxm179.2.1 16 = .ok (.return_, 1) := by decide +kernel
theorem zd179_17 : decode zxm179.2.1 17 = .ok (.aload_n 2, 1) := by decide +kernel
theorem zd179_18 : decode zxm179.2.1 18 = .ok (.iload_n 3, 1) := by decide +kernel
theorem zd179_19 : decode zxm179.2.1 19 = .ok (.invokestatic 88, 3) := by decide +kernel
theorem zd179_22 : decode zxm179.2.1 22 = .ok (.istore 5, 2) := by decide +kernel
theorem zd179_24 : decode zxm179.2.1 24 = .ok (.aload_n 0, 1) := by decide +kernel
theorem zd179_25 : decode zxm179.2.1 25 = .ok (.aload_n 1, 1) := by decide +kernel
theorem zd179_26 : decode zxm179.2.1 26 = .ok (.iload 5, 2) := by decide +kernel
theorem zd179_28 : decode zxm179.2.1 28 = .ok (.aload_n 2, 1) := by decide +kernel
theorem zd179_29 : decode zxm179.2.1 29 = .ok (.getfield 92, 3) := by decide +kernel
theorem zd179_32 : decode zxm179.2.1 32 = .ok (.iconst 1, 1) := by decide +kernel
theorem zd179_33 : decode zxm179.2.1 33 = .ok (.invokevirtual 95, 3) := by decide +kernel
theorem zd179_36 : decode zxm179.2.1 36 = .ok (.ifCond .ne 9, 3) := by decide +kernel
theorem zd179_39 : decode zxm179.2.1 39 = .ok (.aload_n 0, 1) := by decide +kernel
theorem zd179_40 : decode zxm179.2.1 40 = .ok (.iload_n 3, 1) := by decide +kernel
theorem zd179_41 : decode zxm179.2.1 41 = .ok (.putfield 23, 3) := by decide +kernel
theorem zd179_44 : decode zxm179.2.1 44 = .ok (.return_, 1) := by decide +kernel
theorem zd179_45 : decode zxm179.2.1 45 = .ok (.iload 4, 2) := by decide +kernel
theorem zd179_47 : decode zxm179.2.1 47 = .ok (.ifCond .gt 4, 3) := by decide +kernel
theorem zd179_50 : decode zxm179.2.1 50 = .ok (.return_, 1) := by decide +kernel
theorem zd179_51 : decode zxm179.2.1 51 = .ok (.aload_n 0, 1) := by decide +kernel
theorem zd179_52 : decode zxm179.2.1 52 = .ok (.aload_n 1, 1) := by decide +kernel
theorem zd179_53 : decode zxm179.2.1 53 = .ok (.aload_n 2, 1) := by decide +kernel
theorem zd179_54 : decode zxm179.2.1 54 = .ok (.getfield 99, 3) := by decide +kernel
theorem zd179_57 : decode zxm179.2.1 57 = .ok (.invokevirtual 103, 3) := by decide +kernel
theorem zd179_60 : decode zxm179.2.1 60 = .ok (.istore 6, 2) := by decide +kernel
theorem zd179_62 : decode zxm179.2.1 62 = .ok (.iconst 0, 1) := by decide +kernel
theorem zd179_63 : decode zxm179.2.1 63 = .ok (.istore 7, 2) := by decide +kernel
theorem zd179_65 : decode zxm179.2.1 65 = .ok (.iload 7, 2) := by decide +kernel
theorem zd179_67 : decode zxm179.2.1 67 = .ok (.bipush 24, 2) := by decide +kernel
theorem zd179_69 : decode zxm179.2.1 69 = .ok (.if_icmp .ge 35, 3) := by decide +kernel
theorem zd179_72 : decode zxm179.2.1 72 = .ok (.iload 6, 2) := by decide +kernel
theorem zd179_74 : decode zxm179.2.1 74 = .ok (.iload 7, 2) := by decide +kernel
theorem zd179_76 : decode zxm179.2.1 76 = .ok (.ishr, 1) := by decide +kernel
theorem zd179_77 : decode zxm179.2.1 77 = .ok (.iconst 1, 1) := by decide +kernel
theorem zd179_78 : decode zxm179.2.1 78 = .ok (.iand, 1) := by decide +kernel
theorem zd179_79 : decode zxm179.2.1 79 = .ok (.ifCond .eq 19, 3) := by decide +kernel
theorem zd179_82 : decode zxm179.2.1 82 = .ok (.aload_n 0, 1) := by decide +kernel
theorem zd179_83 : decode zxm179.2.1 83 = .ok (.aload_n 1, 1) := by decide +kernel
theorem zd179_84 : decode zxm179.2.1 84 = .ok (.aload_n 2, 1) := by decide +kernel
theorem zd179_85 : decode zxm179.2.1 85 = .ok (.iload_n 3, 1) := by decide +kernel
theorem zd179_86 : decode zxm179.2.1 86 = .ok (.iconst 1, 1) := by decide +kernel
theorem zd179_87 : decode zxm179.2.1 87 = .ok (.iload 7, 2) := by decide +kernel
theorem zd179_89 : decode zxm179.2.1 89 = .ok (.ishl, 1) := by decide +kernel
theorem zd179_90 : decode zxm179.2.1 90 = .ok (.ior, 1) := by decide +kernel
theorem zd179_91 : decode zxm179.2.1 91 = .ok (.iload 4, 2) := by decide +kernel
theorem zd179_93 : decode zxm179.2.1 93 = .ok (.iconst 1, 1) := by decide +kernel
theorem zd179_94 : decode zxm179.2.1 94 = .ok (.isub, 1) := by decide +kernel
theorem zd179_95 : decode zxm179.2.1 95 = .ok (.invokevirtual 84, 3) := by decide +kernel
theorem zd179_98 : decode zxm179.2.1 98 = .ok (.iinc 7 1, 3) := by decide +kernel
theorem zd179_101 : decode zxm179.2.1 101 = .ok (.goto (-36), 3) := by decide +kernel
theorem zd179_104 : decode zxm179.2.1 104 = .ok (.return_, 1) := by decide +kernel
theorem zts_Matcher_hide {dp : Nat} {rc : Nat → Int → Int → Int → Int → Int → Int → Int → (Int → Int) → (Int → Int) → (Int → Int) → (Int → Int) → (Int → Int) → (Int → Int) → Option (Int × Int × (Int → Int) × (Int → Int) × (Int → Int))} (ih0 : ∀ (x3 : Int) (x4 : Int) (f0 : Int) (f2 : Int) (f3 : Int) (f6 : Int) (f7 : Int) (g0 : (Int → Int)) (g1 : (Int → Int)) (g2 : (Int → Int)) (g3 : (Int → Int)) (g4 : (Int → Int)) (g5 : (Int → Int)) (o : Int × Int × (Int → Int) × (Int → Int) × (Int → Int)), rc 0 x3 x4 f0 f2 f3 f6 f7 g0 g1 g2 g3 g4 g5 = some o → zv_Fn z_TB z_cl z_KX zy_Matcher_hide zxm179 (13 + dp, 60 * (13 + dp)) [.inr 0, .inr 1, .inr 2, .inl x3, .inl x4] [.inl f0, .inr 3, .inl f2, .inl f3, .inr 1000, .inr 1000, .inl f6, .inl f7] [g0, g1, g2, g3, g4, g5] none [.inl o.1, .inr 3, .inl f2, .inl f3, .inr 1000, .inr 1000, .inl o.2.1, .inl f7] [g0, g1, o.2.2.1, g3, o.2.2.2.1, o.2.2.2.2]) {x3 : Int} {x4 : Int} {f0 : Int} {f2 : Int} {f3 : Int} {f6 : Int} {f7 : Int} {g0 : (Int → Int)} {g1 : (Int → Int)} {g2 : (Int → Int)} {g3 : (Int → Int)} {g4 : (Int → Int)} {g5 : (Int → Int)} {o : Int × Int × (Int → Int) × (Int → Int) × (Int → Int)} (h : zm_Matcher_hide rc x3 x4 f0 f2 f3 f6 f7 g0 g1 g2 g3 g4 g5 = some o) : zv_Fn z_TB z_cl z_KX zy_Matcher_hide zxm179 (13 + (dp + 1), 60 * (13 + (dp + 1))) [.inr 0, .inr 1, .inr 2, .inl x3, .inl x4] [.inl f0, .inr 3, .inl f2, .inl f3, .inr 1000, .inr 1000, .inl f6, .inl f7] [g0, g1, g2, g3, g4, g5] none [.inl o.1, .inr 3, .inl f2, .inl f3, .inr 1000, .inr 1000, .inl o.2.1, .inl f7] [g0, g1, o.2.2.1, g3, o.2.2.2.1, o.2.2.2.2] := zv_meth (K := (z_KF4, z_KC4, z_KL4, z_KT4, [], [], [], none)) (FT := z_FT) (MT := z_MT) (n := 5) zxp179 (z_ks4 _ (fun _ h => List.mem_cons_of_mem _ h) _ _ _ _ (fun j r h _ => by cases h)) (fun _ _ => zs_KX_p) zyw_Matcher_hide (fun va F G h => by obtain ⟨rfl, _⟩ := h; rfl) (fun va F G h => by obtain ⟨rfl, _⟩ := h; rfl) rfl fun good va F G hB hret hvret hP => by
  obtain ⟨rfl, rfl, rfl⟩ := hP
  have l0 : ∀ (n : Nat) (x3 : Int) (x4 : Int) (x6 : Int) (x7 : Int) (f0 : Int) (f6 : Int) (g2 : (Int → Int)) (g4 : (Int → Int)) (g5 : (Int → Int)) (q : Int × Int × (Int → Int) × (Int → Int) × (Int → Int)), zm_Matcher_hide_l0 rc x3 x4 x6 f2 f3 f7 g0 g1 g3 n x7 f0 f6 g2 g4 g5 = some q → (good 104 [.inr 1000, .inr 1000, .inr 1000, .inr 1000, .inr 1000, .inr 1000, .inr 1000, .inr 1000] [] [.inl q.1, .inr 3, .inl f2, .inl f3, .inr 1000, .inr 1000, .inl q.2.1, .inl f7] [g0, g1, q.2.2.1, g3, q.2.2.2.1, q.2.2.2.2]) → good 65 [.inr 0, .inr 1, .inr 2, .inl x3, .inl x4, .inr 1000, .inl x6, .inl x7] [] [.inl f0, .inr 3, .inl f2, .inl f3, .inr 1000, .inr 1000, .inl f6, .inl f7] [g0, g1, g2, g3, g4, g5] := by
    intro n
    induction n with
    | zero => intro x3 x4 x6 x7 f0 f6 g2 g4 g5 q h; exact absurd (show none = some q from h) (fun h => by cases h)
    | succ n ih =>
      intro x3 x4 x6 x7 f0 f6 g2 g4 g5 q h hK
      replace h : zm_Matcher_hide_l0_b rc x3 x4 x6 f2 f3 f7 g0 g1 g3 (zm_Matcher_hide_l0 rc x3 x4 x6 f2 f3 f7 g0 g1 g3 n) x7 f0 f6 g2 g4 g5 = some q := h
      unfold zm_Matcher_hide_l0_b at h
      refine zv_ild hB zd179_65 rfl rfl ?_
      refine zv_con hB zd179_67 rfl ?_
      refine zv_cge hB zd179_69 rfl (fun hc7 => ?_) (fun hc7 => ?_)
      · rw [if_neg (Int.not_lt.mpr hc7)] at h
        have hq := Option.some.inj h
        subst hq
        refine zv_wk hB (L' := [.inr 1000, .inr 1000, .inr 1000, .inr 1000, .inr 1000, .inr 1000, .inr 1000, .inr 1000]) (F' := [.inl f0, .inr 3, .inl f2, .inl f3, .inr 1000, .inr 1000, .inl f6, .inl f7]) ⟨fun (h : zv_is (.inr 1000)) => (Nat.lt_irrefl 1000 h).elim, fun (h : zv_is (.inr 1000)) => (Nat.lt_irrefl 1000 h).elim, fun (h : zv_is (.inr 1000)) => (Nat.lt_irrefl 1000 h).elim, fun (h : zv_is (.inr 1000)) => (Nat.lt_irrefl 1000 h).elim, fun (h : zv_is (.inr 1000)) => (Nat.lt_irrefl 1000 h).elim, fun (h : zv_is (.inr 1000)) => (Nat.lt_irrefl 1000 h).elim, fun (h : zv_is (.inr 1000)) => (Nat.lt_irrefl 1000 h).elim, fun (h : zv_is (.inr 1000)) => (Nat.lt_irrefl 1000 h).elim, trivial⟩ ⟨fun _ => rfl, fun _ => rfl, fun _ => rfl, fun _ => rfl, fun (h : zv_is (.inr 1000)) => (Nat.lt_irrefl 1000 h).elim, fun (h : zv_is (.inr 1000)) => (Nat.lt_irrefl 1000 h).elim, fun _ => rfl, fun _ => rfl, trivial⟩ ?_
        exact hK
      · rw [if_pos hc7] at h
        refine zv_ild hB zd179_72 rfl rfl ?_
        refine zv_ild hB zd179_74 rfl rfl ?_
        refine zv_shrw hB zd179_76 ?_
        refine zv_con hB zd179_77 rfl ?_
        refine zv_andw hB zd179_78 ?_
        refine zv_zeq hB zd179_79 rfl (fun hc8 => ?_) (fun hc8 => ?_)
        · rw [if_pos hc8] at h
          refine zv_iincw hB zd179_98 rfl rfl ?_
          refine zv_goto hB zd179_101 rfl ?_
          exact ih _ _ _ _ _ _ _ _ _ q h hK
        · rw [if_neg hc8] at h
          refine zv_ald hB zd179_82 rfl rfl rfl ?_
          refine zv_ald hB zd179_83 rfl rfl rfl ?_
          refine zv_ald hB zd179_84 rfl rfl rfl ?_
          refine zv_ild hB zd179_85 rfl rfl ?_
          refine zv_con hB zd179_86 rfl ?_
          refine zv_ild hB zd179_87 rfl rfl ?_
          refine zv_shlw hB zd179_89 ?_
          refine zv_orw hB zd179_90 ?_
          refine zv_ild hB zd179_91 rfl rfl ?_
          refine zv_con hB zd179_93 rfl ?_
          refine zv_subw hB zd179_94 ?_
          obtain ⟨r9, hr9, h⟩ := zi_bind h
          refine zv_cv hB (show zv_Fn _ _ _ zy_Matcher_hide _ _ [.inr 0, .inr 1, .inr 2, .inl (zi_or x3 (zi_shl 1 x7)), .inl (zi_w (x4 - 1))] [.inl f0, .inr 3, .inl f2, .inl f3, .inr 1000, .inr 1000, .inl f6, .inl f7] [g0, g1, g2, g3, g4, g5] none [.inl r9.1, .inr 3, .inl f2, .inl f3, .inr 1000, .inr 1000, .inl r9.2.1, .inl f7] [g0, g1, r9.2.2.1, g3, r9.2.2.2.1, r9.2.2.2.2] from ih0 _ _ _ _ _ _ _ _ _ _ _ _ _ r9 hr9) zd179_95 zxt179 rfl (by show 13 + dp + 1 ≤ 13 + (dp + 1); omega) (by show 8 + (8 + 11) + 60 * (13 + dp) ≤ 60 * (13 + (dp + 1)); omega) rfl ?_
          refine zv_iincw hB zd179_98 rfl rfl ?_
          refine zv_goto hB zd179_101 rfl ?_
          exact ih _ _ _ _ _ _ _ _ _ q h hK
  unfold zm_Matcher_hide at h
  refine zv_ald hB zd179_0 rfl rfl rfl ?_
  refine zv_getf hB zd179_1 rfl rfl (fun _ _ => ?_)
  refine zv_con hB zd179_4 rfl ?_
  refine zv_ceq hB zd179_5 rfl (fun hc1 => ?_) (fun hc1 => ?_)
  · rw [if_pos hc1] at h
    refine zv_ald hB zd179_17 rfl rfl rfl ?_
    refine zv_ild hB zd179_18 rfl rfl ?_
    obtain ⟨r2, hr2, h⟩ := zi_bind h
    refine zv_cs hB (zv_emq (va2 := [.inr 2, .inl x3]) (F := [.inl f0, .inr 3, .inl f2, .inl f3, .inr 1000, .inr 1000, .inl f6, .inl f7]) (F' := [.inl f0, .inr 3, .inl f2, .inl f3, .inr 1000, .inr 1000, .inl f6, .inl f7]) (G := [g0, g1, g2, g3, g4, g5]) (G' := [g0, g1, g2, g3, g4, g5]) (ρ := [2, 3, 4]) (φ := [2, 1, 3]) (ψ := [0]) [none, some 1, some 0, some 2, none, none, none, none] [some 0, none, none, none, none, none] zyw_Matcher_notIn zyw_Matcher_hide zye_Matcher_hide (by decide +kernel) (zt_Matcher_notIn hr2) ⟨⟨_, rfl, fun _ => rfl⟩, ⟨_, rfl, fun _ => rfl⟩, ⟨_, rfl, fun _ => rfl⟩, trivial⟩ ⟨rfl, trivial⟩ rfl rfl rfl rfl rfl rfl rfl) zd179_19 zxt180 rfl (by show 1 + 1 ≤ 13 + (dp + 1); omega) (by show 8 + (4 + 11) + 60 * (1) ≤ 60 * (13 + (dp + 1)); omega) rfl ?_
    refine zv_ist hB zd179_22 rfl rfl rfl ?_
    refine zv_ald hB zd179_24 rfl rfl rfl ?_
    refine zv_ald hB zd179_25 rfl rfl rfl ?_
    refine zv_ild hB zd179_26 rfl rfl ?_
    refine zv_ald hB zd179_28 rfl rfl rfl ?_
    refine zv_getr hB zd179_29 rfl ?_
    refine zv_con hB zd179_32 rfl ?_
    obtain ⟨r3, hr3, h⟩ := zi_bind h
    refine zv_cv hB (zv_emq (va2 := [.inr 0, .inr 1, .inl r2, .inr 5, .inl 1]) (F := [.inl f0, .inr 3, .inl f2, .inl f3, .inr 1000, .inr 1000, .inl f6, .inl f7]) (F' := [.inl f0, .inr 3, .inl f2, .inl f3, .inr 1, .inr 5, .inl r3.2.1, .inl f7]) (G := [g0, g1, g2, g3, g4, g5]) (G' := [g0, g1, r3.2.2.1, g3, r3.2.2.2.1, r3.2.2.2.2]) (ρ := [0, 1, 5, 6, 7, 8, 9]) (φ := [4, 5, 6, 7]) (ψ := [1, 2, 3, 4, 5]) [none, none, none, none, some 0, some 1, some 2, some 3] [none, some 0, some 1, some 2, some 3, some 4] zyw_Matcher_countWays_24 zyw_Matcher_hide zye_Matcher_hide (by decide +kernel) (zt_Matcher_countWays_24 hr3) ⟨⟨_, rfl, fun (h : zv_is (.inr 1000)) => (Nat.lt_irrefl 1000 h).elim⟩, ⟨_, rfl, fun (h : zv_is (.inr 1000)) => (Nat.lt_irrefl 1000 h).elim⟩, ⟨_, rfl, fun _ => rfl⟩, ⟨_, rfl, fun _ => rfl⟩, trivial⟩ ⟨rfl, rfl, rfl, rfl, rfl, trivial⟩ rfl rfl rfl rfl rfl rfl rfl) zd179_33 zxt112 rfl (by show 12 + 1 ≤ 13 + (dp + 1); omega) (by show 8 + (5 + 11) + 60 * (12) ≤ 60 * (13 + (dp + 1)); omega) rfl ?_
    refine zv_zne hB zd179_36 rfl (fun hc4 => ?_) (fun hc4 => ?_)
    · rw [if_neg hc4] at h
      refine zv_ild hB zd179_45 rfl rfl ?_
      refine zv_zgt hB zd179_47 rfl (fun hc5 => ?_) (fun hc5 => ?_)
      · rw [if_pos hc5] at h
        refine zv_ald hB zd179_51 rfl rfl rfl ?_
        refine zv_ald hB zd179_52 rfl rfl rfl ?_
        refine zv_ald hB zd179_53 rfl rfl rfl ?_
        refine zv_getq hB zd179_54 rfl rfl rfl ?_
        obtain ⟨r6, hr6, h⟩ := zi_bind h
        refine zv_cv hB (zv_emq (va2 := [.inr 0, .inr 1, .inr 3]) (F := [.inl f0, .inr 3, .inl f2, .inl f3, .inr 1, .inr 5, .inl r3.2.1, .inl f7]) (F' := [.inl f0, .inr 3, .inl f2, .inl f3, .inr 1, .inr 5, .inl r3.2.1, .inl f7]) (G := [g0, g1, r3.2.2.1, g3, r3.2.2.2.1, r3.2.2.2.2]) (G' := [g0, g1, r3.2.2.1, g3, r3.2.2.2.1, r3.2.2.2.2]) (ρ := [0, 1, 3, 9, 4]) (φ := [7, 3]) (ψ := [5, 0]) [none, none, none, some 1, none, none, none, some 0] [some 1, none, none, none, none, some 0] zyw_Matcher_columnsOfWay zyw_Matcher_hide zye_Matcher_hide (by decide +kernel) (zt_Matcher_columnsOfWay hr6) ⟨⟨_, rfl, fun _ => rfl⟩, ⟨_, rfl, fun _ => rfl⟩, trivial⟩ ⟨rfl, rfl, trivial⟩ rfl rfl rfl rfl rfl rfl rfl) zd179_57 zxt181 rfl (by show 1 + 1 ≤ 13 + (dp + 1); omega) (by show 8 + (5 + 11) + 60 * (1) ≤ 60 * (13 + (dp + 1)); omega) rfl ?_
        refine zv_ist hB zd179_60 rfl rfl rfl ?_
        refine zv_con hB zd179_62 rfl ?_
        refine zv_ist hB zd179_63 rfl rfl rfl ?_
        obtain ⟨q10, hq10, h⟩ := zi_bind h
        refine zv_wk hB (L' := [.inr 0, .inr 1, .inr 2, .inl x3, .inl x4, .inr 1000, .inl r6, .inl 0]) (F' := [.inl f0, .inr 3, .inl f2, .inl f3, .inr 1000, .inr 1000, .inl r3.2.1, .inl f7]) ⟨fun _ => rfl, fun _ => rfl, fun _ => rfl, fun _ => rfl, fun _ => rfl, fun (h : zv_is (.inr 1000)) => (Nat.lt_irrefl 1000 h).elim, fun _ => rfl, fun _ => rfl, trivial⟩ ⟨fun _ => rfl, fun _ => rfl, fun _ => rfl, fun _ => rfl, fun (h : zv_is (.inr 1000)) => (Nat.lt_irrefl 1000 h).elim, fun (h : zv_is (.inr 1000)) => (Nat.lt_irrefl 1000 h).elim, fun _ => rfl, fun _ => rfl, trivial⟩ ?_
        refine l0 _ _ _ _ _ _ _ _ _ _ q10 hq10 ?_
        show good 104 [.inr 1000, .inr 1000, .inr 1000, .inr 1000, .inr 1000, .inr 1000, .inr 1000, .inr 1000] [] [.inl q10.1, .inr 3, .inl f2, .inl f3, .inr 1000, .inr 1000, .inl q10.2.1, .inl f7] [g0, g1, q10.2.2.1, g3, q10.2.2.2.1, q10.2.2.2.2]
        have hw := Option.some.inj h
        subst hw
        exact hvret _ _ _ _ zd179_104 trivial ⟨rfl, rfl, rfl⟩
      · rw [if_neg (Int.not_lt.mpr hc5)] at h
        have hw := Option.some.inj h
        refine zv_wk hB (L' := [.inr 0, .inr 1, .inr 2, .inl x3, .inl x4, .inl r2, .inr 1000, .inr 1000]) (F' := [.inl f0, .inr 3, .inl f2, .inl f3, .inr 1000, .inr 1000, .inl r3.2.1, .inl f7]) ⟨fun _ => rfl, fun _ => rfl, fun _ => rfl, fun _ => rfl, fun _ => rfl, fun _ => rfl, fun _ => rfl, fun _ => rfl, trivial⟩ ⟨fun _ => rfl, fun _ => rfl, fun _ => rfl, fun _ => rfl, fun (h : zv_is (.inr 1000)) => (Nat.lt_irrefl 1000 h).elim, fun (h : zv_is (.inr 1000)) => (Nat.lt_irrefl 1000 h).elim, fun _ => rfl, fun _ => rfl, trivial⟩ ?_
        subst hw
        exact hvret _ _ _ _ zd179_50 trivial ⟨rfl, rfl, rfl⟩
    · rw [if_pos hc4] at h
      refine zv_ald hB zd179_39 rfl rfl rfl ?_
      refine zv_ild hB zd179_40 rfl rfl ?_
      refine zv_putf hB zd179_41 rfl rfl (fun h => by cases h) rfl ?_
      have hw := Option.some.inj h
      refine zv_wk hB (L' := [.inr 0, .inr 1, .inr 2, .inl x3, .inl x4, .inl r2, .inr 1000, .inr 1000]) (F' := [.inl x3, .inr 3, .inl f2, .inl f3, .inr 1000, .inr 1000, .inl r3.2.1, .inl f7]) ⟨fun _ => rfl, fun _ => rfl, fun _ => rfl, fun _ => rfl, fun _ => rfl, fun _ => rfl, fun _ => rfl, fun _ => rfl, trivial⟩ ⟨fun _ => rfl, fun _ => rfl, fun _ => rfl, fun _ => rfl, fun (h : zv_is (.inr 1000)) => (Nat.lt_irrefl 1000 h).elim, fun (h : zv_is (.inr 1000)) => (Nat.lt_irrefl 1000 h).elim, fun _ => rfl, fun _ => rfl, trivial⟩ ?_
      subst hw
      exact hvret _ _ _ _ zd179_44 trivial ⟨rfl, rfl, rfl⟩
  · rw [if_neg hc1] at h
    refine zv_ild hB zd179_8 rfl rfl ?_
    refine zv_ald hB zd179_9 rfl rfl rfl ?_
    refine zv_getf hB zd179_10 rfl rfl (fun _ _ => ?_)
    refine zv_clt hB zd179_13 rfl (fun hc11 => ?_) (fun hc11 => ?_)
    · rw [if_pos hc11] at h
      refine zv_ald hB zd179_17 rfl rfl rfl ?_
      refine zv_ild hB zd179_18 rfl rfl ?_
      obtain ⟨r12, hr12, h⟩ := zi_bind h
      refine zv_cs hB (zv_emq (va2 := [.inr 2, .inl x3]) (F := [.inl f0, .inr 3, .inl f2, .inl f3, .inr 1000, .inr 1000, .inl f6, .inl f7]) (F' := [.inl f0, .inr 3, .inl f2, .inl f3, .inr 1000, .inr 1000, .inl f6, .inl f7]) (G := [g0, g1, g2, g3, g4, g5]) (G' := [g0, g1, g2, g3, g4, g5]) (ρ := [2, 3, 4]) (φ := [2, 1, 3]) (ψ := [0]) [none, some 1, some 0, some 2, none, none, none, none] [some 0, none, none, none, none, none] zyw_Matcher_notIn zyw_Matcher_hide zye_Matcher_hide (by decide +kernel) (zt_Matcher_notIn hr12) ⟨⟨_, rfl, fun _ => rfl⟩, ⟨_, rfl, fun _ => rfl⟩, ⟨_, rfl, fun _ => rfl⟩, trivial⟩ ⟨rfl, trivial⟩ rfl rfl rfl rfl rfl rfl rfl) zd179_19 zxt180 rfl (by show 1 + 1 ≤ 13 + (dp + 1); omega) (by show 8 + (4 + 11) + 60 * (1) ≤ 60 * (13 + (dp + 1)); omega) rfl ?_
      refine zv_ist hB zd179_22 rfl rfl rfl ?_
      refine zv_ald hB zd179_24 rfl rfl rfl ?_
      refine zv_ald hB zd179_25 rfl rfl rfl ?_
      refine zv_ild hB zd179_26 rfl rfl ?_
      refine zv_ald hB zd179_28 rfl rfl rfl ?_
      refine zv_getr hB zd179_29 rfl ?_
      refine zv_con hB zd179_32 rfl ?_
      obtain ⟨r13, hr13, h⟩ := zi_bind h
      refine zv_cv hB (zv_emq (va2 := [.inr 0, .inr 1, .inl r12, .inr 5, .inl 1]) (F := [.inl f0, .inr 3, .inl f2, .inl f3, .inr 1000, .inr 1000, .inl f6, .inl f7]) (F' := [.inl f0, .inr 3, .inl f2, .inl f3, .inr 1, .inr 5, .inl r13.2.1, .inl f7]) (G := [g0, g1, g2, g3, g4, g5]) (G' := [g0, g1, r13.2.2.1, g3, r13.2.2.2.1, r13.2.2.2.2]) (ρ := [0, 1, 5, 6, 7, 8, 9]) (φ := [4, 5, 6, 7]) (ψ := [1, 2, 3, 4, 5]) [none, none, none, none, some 0, some 1, some 2, some 3] [none, some 0, some 1, some 2, some 3, some 4] zyw_Matcher_countWays_24 zyw_Matcher_hide zye_Matcher_hide (by decide +kernel) (zt_Matcher_countWays_24 hr13) ⟨⟨_, rfl, fun (h : zv_is (.inr 1000)) => (Nat.lt_irrefl 1000 h).elim⟩, ⟨_, rfl, fun (h : zv_is (.inr 1000)) => (Nat.lt_irrefl 1000 h).elim⟩, ⟨_, rfl, fun _ => rfl⟩, ⟨_, rfl, fun _ => rfl⟩, trivial⟩ ⟨rfl, rfl, rfl, rfl, rfl, trivial⟩ rfl rfl rfl rfl rfl rfl rfl) zd179_33 zxt112 rfl (by show 12 + 1 ≤ 13 + (dp + 1); omega) (by show 8 + (5 + 11) + 60 * (12) ≤ 60 * (13 + (dp + 1)); omega) rfl ?_
      refine zv_zne hB zd179_36 rfl (fun hc14 => ?_) (fun hc14 => ?_)
      · rw [if_neg hc14] at h
        refine zv_ild hB zd179_45 rfl rfl ?_
        refine zv_zgt hB zd179_47 rfl (fun hc15 => ?_) (fun hc15 => ?_)
        · rw [if_pos hc15] at h
          refine zv_ald hB zd179_51 rfl rfl rfl ?_
          refine zv_ald hB zd179_52 rfl rfl rfl ?_
          refine zv_ald hB zd179_53 rfl rfl rfl ?_
          refine zv_getq hB zd179_54 rfl rfl rfl ?_
          obtain ⟨r16, hr16, h⟩ := zi_bind h
          refine zv_cv hB (zv_emq (va2 := [.inr 0, .inr 1, .inr 3]) (F := [.inl f0, .inr 3, .inl f2, .inl f3, .inr 1, .inr 5, .inl r13.2.1, .inl f7]) (F' := [.inl f0, .inr 3, .inl f2, .inl f3, .inr 1, .inr 5, .inl r13.2.1, .inl f7]) (G := [g0, g1, r13.2.2.1, g3, r13.2.2.2.1, r13.2.2.2.2]) (G' := [g0, g1, r13.2.2.1, g3, r13.2.2.2.1, r13.2.2.2.2]) (ρ := [0, 1, 3, 9, 4]) (φ := [7, 3]) (ψ := [5, 0]) [none, none, none, some 1, none, none, none, some 0] [some 1, none, none, none, none, some 0] zyw_Matcher_columnsOfWay zyw_Matcher_hide zye_Matcher_hide (by decide +kernel) (zt_Matcher_columnsOfWay hr16) ⟨⟨_, rfl, fun _ => rfl⟩, ⟨_, rfl, fun _ => rfl⟩, trivial⟩ ⟨rfl, rfl, trivial⟩ rfl rfl rfl rfl rfl rfl rfl) zd179_57 zxt181 rfl (by show 1 + 1 ≤ 13 + (dp + 1); omega) (by show 8 + (5 + 11) + 60 * (1) ≤ 60 * (13 + (dp + 1)); omega) rfl ?_
          refine zv_ist hB zd179_60 rfl rfl rfl ?_
          refine zv_con hB zd179_62 rfl ?_
          refine zv_ist hB zd179_63 rfl rfl rfl ?_
          obtain ⟨q17, hq17, h⟩ := zi_bind h
          refine zv_wk hB (L' := [.inr 0, .inr 1, .inr 2, .inl x3, .inl x4, .inr 1000, .inl r16, .inl 0]) (F' := [.inl f0, .inr 3, .inl f2, .inl f3, .inr 1000, .inr 1000, .inl r13.2.1, .inl f7]) ⟨fun _ => rfl, fun _ => rfl, fun _ => rfl, fun _ => rfl, fun _ => rfl, fun (h : zv_is (.inr 1000)) => (Nat.lt_irrefl 1000 h).elim, fun _ => rfl, fun _ => rfl, trivial⟩ ⟨fun _ => rfl, fun _ => rfl, fun _ => rfl, fun _ => rfl, fun (h : zv_is (.inr 1000)) => (Nat.lt_irrefl 1000 h).elim, fun (h : zv_is (.inr 1000)) => (Nat.lt_irrefl 1000 h).elim, fun _ => rfl, fun _ => rfl, trivial⟩ ?_
          refine l0 _ _ _ _ _ _ _ _ _ _ q17 hq17 ?_
          show good 104 [.inr 1000, .inr 1000, .inr 1000, .inr 1000, .inr 1000, .inr 1000, .inr 1000, .inr 1000] [] [.inl q17.1, .inr 3, .inl f2, .inl f3, .inr 1000, .inr 1000, .inl q17.2.1, .inl f7] [g0, g1, q17.2.2.1, g3, q17.2.2.2.1, q17.2.2.2.2]
          have hw := Option.some.inj h
          subst hw
          exact hvret _ _ _ _ zd179_104 trivial ⟨rfl, rfl, rfl⟩
        · rw [if_neg (Int.not_lt.mpr hc15)] at h
          have hw := Option.some.inj h
          refine zv_wk hB (L' := [.inr 0, .inr 1, .inr 2, .inl x3, .inl x4, .inl r12, .inr 1000, .inr 1000]) (F' := [.inl f0, .inr 3, .inl f2, .inl f3, .inr 1000, .inr 1000, .inl r13.2.1, .inl f7]) ⟨fun _ => rfl, fun _ => rfl, fun _ => rfl, fun _ => rfl, fun _ => rfl, fun _ => rfl, fun _ => rfl, fun _ => rfl, trivial⟩ ⟨fun _ => rfl, fun _ => rfl, fun _ => rfl, fun _ => rfl, fun (h : zv_is (.inr 1000)) => (Nat.lt_irrefl 1000 h).elim, fun (h : zv_is (.inr 1000)) => (Nat.lt_irrefl 1000 h).elim, fun _ => rfl, fun _ => rfl, trivial⟩ ?_
          subst hw
          exact hvret _ _ _ _ zd179_50 trivial ⟨rfl, rfl, rfl⟩
      · rw [if_pos hc14] at h
        refine zv_ald hB zd179_39 rfl rfl rfl ?_
        refine zv_ild hB zd179_40 rfl rfl ?_
        refine zv_putf hB zd179_41 rfl rfl (fun h => by cases h) rfl ?_
        have hw := Option.some.inj h
        refine zv_wk hB (L' := [.inr 0, .inr 1, .inr 2, .inl x3, .inl x4, .inl r12, .inr 1000, .inr 1000]) (F' := [.inl x3, .inr 3, .inl f2, .inl f3, .inr 1000, .inr 1000, .inl r13.2.1, .inl f7]) ⟨fun _ => rfl, fun _ => rfl, fun _ => rfl, fun _ => rfl, fun _ => rfl, fun _ => rfl, fun _ => rfl, fun _ => rfl, trivial⟩ ⟨fun _ => rfl, fun _ => rfl, fun _ => rfl, fun _ => rfl, fun (h : zv_is (.inr 1000)) => (Nat.lt_irrefl 1000 h).elim, fun (h : zv_is (.inr 1000)) => (Nat.lt_irrefl 1000 h).elim, fun _ => rfl, fun _ => rfl, trivial⟩ ?_
        subst hw
        exact hvret _ _ _ _ zd179_44 trivial ⟨rfl, rfl, rfl⟩
    · rw [if_neg (Int.not_lt.mpr hc11)] at h
      have hw := Option.some.inj h
      subst hw
      exact hvret _ _ _ _ zd179_16 trivial ⟨rfl, rfl, rfl⟩
def zg_Matcher_hide : Nat → Nat → Int → Int → Int → Int → Int → Int → Int → (Int → Int) → (Int → Int) → (Int → Int) → (Int → Int) → (Int → Int) → (Int → Int) → Option (Int × Int × (Int → Int) × (Int → Int) × (Int → Int))
  | 0, _, _, _, _, _, _, _, _, _, _, _, _, _, _ => none
  | n + 1, _, x3, x4, f0, f2, f3, f6, f7, g0, g1, g2, g3, g4, g5 => zm_Matcher_hide (zg_Matcher_hide n) x3 x4 f0 f2 f3 f6 f7 g0 g1 g2 g3 g4 g5
theorem ztg_Matcher_hide : ∀ n : Nat, (∀ (x3 : Int) (x4 : Int) (f0 : Int) (f2 : Int) (f3 : Int) (f6 : Int) (f7 : Int) (g0 : (Int → Int)) (g1 : (Int → Int)) (g2 : (Int → Int)) (g3 : (Int → Int)) (g4 : (Int → Int)) (g5 : (Int → Int)) (o : Int × Int × (Int → Int) × (Int → Int) × (Int → Int)), zg_Matcher_hide n 0 x3 x4 f0 f2 f3 f6 f7 g0 g1 g2 g3 g4 g5 = some o → zv_Fn z_TB z_cl z_KX zy_Matcher_hide zxm179 (13 + n, 60 * (13 + n)) [.inr 0, .inr 1, .inr 2, .inl x3, .inl x4] [.inl f0, .inr 3, .inl f2, .inl f3, .inr 1000, .inr 1000, .inl f6, .inl f7] [g0, g1, g2, g3, g4, g5] none [.inl o.1, .inr 3, .inl f2, .inl f3, .inr 1000, .inr 1000, .inl o.2.1, .inl f7] [g0, g1, o.2.2.1, g3, o.2.2.2.1, o.2.2.2.2]) := by
  intro n
  induction n with
  | zero => exact fun _ _ _ _ _ _ _ _ _ _ _ _ _ o h => absurd (show none = some o from h) (fun h => by cases h)
  | succ n ih =>
    have ih0 := ih
    exact fun _ _ _ _ _ _ _ _ _ _ _ _ _ o h => zts_Matcher_hide (rc := zg_Matcher_hide n) ih0 h
def zf_Matcher_hide (x3 : Int) (x4 : Int) (f0 : Int) (f2 : Int) (f3 : Int) (f6 : Int) (f7 : Int) (g0 : (Int → Int)) (g1 : (Int → Int)) (g2 : (Int → Int)) (g3 : (Int → Int)) (g4 : (Int → Int)) (g5 : (Int → Int)) : Option (Int × Int × (Int → Int) × (Int → Int) × (Int → Int)) := zg_Matcher_hide 6 0 x3 x4 f0 f2 f3 f6 f7 g0 g1 g2 g3 g4 g5
theorem zt_Matcher_hide {x3 : Int} {x4 : Int} {f0 : Int} {f2 : Int} {f3 : Int} {f6 : Int} {f7 : Int} {g0 : (Int → Int)} {g1 : (Int → Int)} {g2 : (Int → Int)} {g3 : (Int → Int)} {g4 : (Int → Int)} {g5 : (Int → Int)} {o : Int × Int × (Int → Int) × (Int → Int) × (Int → Int)} (h : zf_Matcher_hide x3 x4 f0 f2 f3 f6 f7 g0 g1 g2 g3 g4 g5 = some o) : zv_Fn z_TB z_cl z_KX zy_Matcher_hide zxm179 (19, 1140) [.inr 0, .inr 1, .inr 2, .inl x3, .inl x4] [.inl f0, .inr 3, .inl f2, .inl f3, .inr 1000, .inr 1000, .inl f6, .inl f7] [g0, g1, g2, g3, g4, g5] none [.inl o.1, .inr 3, .inl f2, .inl f3, .inr 1000, .inr 1000, .inl o.2.1, .inl f7] [g0, g1, o.2.2.1, g3, o.2.2.2.1, o.2.2.2.2] := (ztg_Matcher_hide 6) _ _ _ _ _ _ _ _ _ _ _ _ _ o h
/-! Matcher_fewestColumns (LStarTales$Tale;LStarTales$View;)I -/
-- names: 0 Matcher('arg', 0), 1 Tale('arg', 1), 2 View('arg', 2), 3 Sky(2, 7, 0), 4 (0, 24)(3, 1, 1), 5 (0, 24)(2, 7, 5), 6 (0, 72)(0, 8, 0), 7 (0, 8)(1, 6, 2), 8 (0, 24)(0, 8, 1), 9 (0, 8)(0, 8, 2)
-- fields: f0 = 0.fewest_, f1 = 2.sky_, f2 = 2.shown_, f3 = 3.hour_, f4 = 0.tale_, f5 = 0.joined_, f6 = 0.deadEnds_, f7 = 1.names_; arrays: g0 = 4, g1 = 5, g2 = 6, g3 = 7, g4 = 8, g5 = 9; out: [('ret', None), ('f', 0), ('f', 6), ('g', 2), ('g', 4), ('g', 5)]
abbrev zy_Matcher_fewestColumns : zNL := (10, [(0, 8), (1, 6), (2, 7), (3, 1)], [(0, 8, 5, 0), (2, 7, 0, 1), (2, 7, 4, 2), (3, 1, 6, 3), (0, 8, 3, 4), (0, 8, 4, 5), (0, 8, 6, 6), (1, 6, 1, 7)], [(3, 1, 1, 4), (2, 7, 5, 5), (0, 8, 0, 6), (1, 6, 2, 7), (0, 8, 1, 8), (0, 8, 2, 9)], [(4, 0, 24, 0), (5, 0, 24, 1), (6, 0, 72, 2), (7, 0, 8, 3), (8, 0, 24, 4), (9, 0, 8, 5)])
theorem zyw_Matcher_fewestColumns : zv_wf zy_Matcher_fewestColumns = true := by decide +kernel
theorem zye_Matcher_fewestColumns : zv_ek2 zy_Matcher_fewestColumns = true := by decide +kernel
def zf_Matcher_fewestColumns_l0_b (f2 : Int) (f3 : Int) (f7 : Int) (g0 : (Int → Int)) (g1 : (Int → Int)) (g3 : (Int → Int)) (rec : Int → Int → Int → (Int → Int) → (Int → Int) → (Int → Int) → Option (Int × Int × (Int → Int) × (Int → Int) × (Int → Int))) (x3 : Int) (f0 : Int) (f6 : Int) (g2 : (Int → Int)) (g4 : (Int → Int)) (g5 : (Int → Int)) : Option (Int × Int × (Int → Int) × (Int → Int) × (Int → Int)) := if 4 < x3 then (some (f0, f6, g2, g4, g5)) else (if f0 = (-1) then ((zf_Matcher_hide 0 x3 f0 f2 f3 f6 f7 g0 g1 g2 g3 g4 g5).bind fun r3 => (rec (zi_w (x3 + 1)) r3.1 r3.2.1 r3.2.2.1 r3.2.2.2.1 r3.2.2.2.2)) else (some (f0, f6, g2, g4, g5)))
def zf_Matcher_fewestColumns_l0 (f2 : Int) (f3 : Int) (f7 : Int) (g0 : (Int → Int)) (g1 : (Int → Int)) (g3 : (Int → Int)) : Nat → Int → Int → Int → (Int → Int) → (Int → Int) → (Int → Int) → Option (Int × Int × (Int → Int) × (Int → Int) × (Int → Int))
  | 0, _, _, _, _, _, _ => none
  | n + 1, x3, f0, f6, g2, g4, g5 => zf_Matcher_fewestColumns_l0_b f2 f3 f7 g0 g1 g3 (zf_Matcher_fewestColumns_l0 f2 f3 f7 g0 g1 g3 n) x3 f0 f6 g2 g4 g5
def zf_Matcher_fewestColumns (f0 : Int) (f2 : Int) (f3 : Int) (f6 : Int) (f7 : Int) (g0 : (Int → Int)) (g1 : (Int → Int)) (g2 : (Int → Int)) (g3 : (Int → Int)) (g4 : (Int → Int)) (g5 : (Int → Int)) : Option (Int × Int × Int × (Int → Int) × (Int → Int) × (Int → Int)) := (zf_Matcher_fewestColumns_l0 f2 f3 f7 g0 g1 g3 zi_fu 1 (-1) f6 g2 g4 g5).bind fun q4 => (some (q4.1, q4.1, q4.2.1, q4.2.2.1, q4.2.2.2.1, q4.2.2.2.2))
theorem zd178_0 : decode zxm178.2.1 0 = .ok (.aload_n 0, 1) := by decide +kernel
theorem zd178_1 : decode zxm178.2.1 1 = .ok (.iconst (-1), 1) := by decide +kernel
theorem zd178_2 : decode zxm178.2.1 2 = .ok (.putfield 23, 3) := by decide +kernel
theorem zd178_5 : decode zxm178.2.1 5 = .ok (.iconst 1, 1) := by decide +kernel
theorem zd178_6 : decode zxm178.2.1 6 = .ok (.istore_n 3, 1) := by decide +kernel
theorem zd178_7 : decode zxm178.2.1 7 = .ok (.iload_n 3, 1) := by decide +kernel
theorem zd178_8 : decode zxm178.2.1 8 = .ok (.iconst 4, 1) := by decide +kernel
theorem zd178_9 : decode zxm178.2.1 9 = .ok (.if_icmp .gt 25, 3) := by decide +kernel
theorem zd178_12 : decode zxm178.2.1 12 = .ok (.aload_n 0, 1) := by decide +kernel
theorem zd178_13 : decode zxm178.2.1 13 = .ok (.getfield 23, 3) := by decide +kernel
theorem zd178_16 : decode zxm178.2.1 16 = .ok (.iconst (-1), 1) := by decide +kernel
theorem zd178_17 : decode zxm178.2.1 17 = .ok (.if_icmp .ne 17, 3) := by decide +kernel
theorem zd178_20 : decode zxm178.2.1 20 = .ok (.aload_n 0, 1) := by decide +kernel
theorem zd178_21 : decode zxm178.2.1 21 = .ok (.aload_n 1, 1) := by decide +kernel
theorem zd178_22 : decode zxm178.2.1 22 = .ok (.aload_n 2, 1) := by decide +kernel
theorem zd178_23 : decode zxm178.2.1 23 = .ok (.iconst 0, 1) := by decide +kernel
theorem zd178_24 : decode zxm178.2.1 24 = .ok (.iload_n 3, 1) := by decide +kernel
theorem zd178_25 : decode zxm178.2.1 25 = .ok (.invokevirtual 84, 3) := by decide +kernel
theorem zd178_28 : decode zxm178.2.1 28 = .ok (.iinc 3 1, 3) := by decide +kernel
theorem zd178_31 : decode zxm178.2.1 31 = .ok (.goto (-24), 3) := by decide +kernel
theorem zd178_34 : decode zxm178.2.1 34 = .ok (.aload_n 0, 1) := by decide +kernel
theorem zd178_35 : decode zxm178.2.1 35 = .ok (.getfield 23, 3) := by decide +kernel
theorem zd178_38 : decode zxm178.2.1 38 = .ok (.ireturn, 1) := by decide +kernel
theorem zt_Matcher_fewestColumns {f0 : Int} {f2 : Int} {f3 : Int} {f6 : Int} {f7 : Int} {g0 : (Int → Int)} {g1 : (Int → Int)} {g2 : (Int → Int)} {g3 : (Int → Int)} {g4 : (Int → Int)} {g5 : (Int → Int)} {o : Int × Int × Int × (Int → Int) × (Int → Int) × (Int → Int)} (h : zf_Matcher_fewestColumns f0 f2 f3 f6 f7 g0 g1 g2 g3 g4 g5 = some o) : zv_Fn z_TB z_cl z_KX zy_Matcher_fewestColumns zxm178 (20, 1200) [.inr 0, .inr 1, .inr 2] [.inl f0, .inr 3, .inl f2, .inl f3, .inr 1000, .inr 1000, .inl f6, .inl f7] [g0, g1, g2, g3, g4, g5] (some o.1) [.inl o.2.1, .inr 3, .inl f2, .inl f3, .inr 1000, .inr 1000, .inl o.2.2.1, .inl f7] [g0, g1, o.2.2.2.1, g3, o.2.2.2.2.1, o.2.2.2.2.2] := zv_meth (K := (z_KF4, z_KC4, z_KL4, z_KT4, [], [], [], none)) (FT := z_FT) (MT := z_MT) (n := 3) zxp178 (z_ks4 _ (fun _ h => List.mem_cons_of_mem _ h) _ _ _ _ (fun j r h _ => by cases h)) (fun _ _ => zs_KX_p) zyw_Matcher_fewestColumns (fun va F G h => by obtain ⟨rfl, _⟩ := h; rfl) (fun va F G h => by obtain ⟨rfl, _⟩ := h; rfl) rfl fun good va F G hB hret hvret hP => by
  obtain ⟨rfl, rfl, rfl⟩ := hP
  have l0 : ∀ (n : Nat) (x3 : Int) (f0 : Int) (f6 : Int) (g2 : (Int → Int)) (g4 : (Int → Int)) (g5 : (Int → Int)) (q : Int × Int × (Int → Int) × (Int → Int) × (Int → Int)), zf_Matcher_fewestColumns_l0 f2 f3 f7 g0 g1 g3 n x3 f0 f6 g2 g4 g5 = some q → (good 34 [.inr 0, .inr 1000, .inr 1000, .inr 1000] [] [.inl q.1, .inr 3, .inl f2, .inl f3, .inr 1000, .inr 1000, .inl q.2.1, .inl f7] [g0, g1, q.2.2.1, g3, q.2.2.2.1, q.2.2.2.2]) → good 7 [.inr 0, .inr 1, .inr 2, .inl x3] [] [.inl f0, .inr 3, .inl f2, .inl f3, .inr 1000, .inr 1000, .inl f6, .inl f7] [g0, g1, g2, g3, g4, g5] := by
    intro n
    induction n with
    | zero => intro x3 f0 f6 g2 g4 g5 q h; exact absurd (show none = some q from h) (fun h => by cases h)
    | succ n ih =>
      intro x3 f0 f6 g2 g4 g5 q h hK
      replace h : zf_Matcher_fewestColumns_l0_b f2 f3 f7 g0 g1 g3 (zf_Matcher_fewestColumns_l0 f2 f3 f7 g0 g1 g3 n) x3 f0 f6 g2 g4 g5 = some q := h
      unfold zf_Matcher_fewestColumns_l0_b at h
      refine zv_ild hB zd178_7 rfl rfl ?_
      refine zv_con hB zd178_8 rfl ?_
      refine zv_cgt hB zd178_9 rfl (fun hc1 => ?_) (fun hc1 => ?_)
      · rw [if_pos hc1] at h
        have hq := Option.some.inj h
        subst hq
        refine zv_wk hB (L' := [.inr 0, .inr 1000, .inr 1000, .inr 1000]) (F' := [.inl f0, .inr 3, .inl f2, .inl f3, .inr 1000, .inr 1000, .inl f6, .inl f7]) ⟨fun _ => rfl, fun (h : zv_is (.inr 1000)) => (Nat.lt_irrefl 1000 h).elim, fun (h : zv_is (.inr 1000)) => (Nat.lt_irrefl 1000 h).elim, fun (h : zv_is (.inr 1000)) => (Nat.lt_irrefl 1000 h).elim, trivial⟩ ⟨fun _ => rfl, fun _ => rfl, fun _ => rfl, fun _ => rfl, fun (h : zv_is (.inr 1000)) => (Nat.lt_irrefl 1000 h).elim, fun (h : zv_is (.inr 1000)) => (Nat.lt_irrefl 1000 h).elim, fun _ => rfl, fun _ => rfl, trivial⟩ ?_
        exact hK
      · rw [if_neg (Int.not_lt.mpr hc1)] at h
        refine zv_ald hB zd178_12 rfl rfl rfl ?_
        refine zv_getf hB zd178_13 rfl rfl (fun _ _ => ?_)
        refine zv_con hB zd178_16 rfl ?_
        refine zv_cne hB zd178_17 rfl (fun hc2 => ?_) (fun hc2 => ?_)
        · rw [if_neg hc2] at h
          have hq := Option.some.inj h
          subst hq
          refine zv_wk hB (L' := [.inr 0, .inr 1000, .inr 1000, .inr 1000]) (F' := [.inl f0, .inr 3, .inl f2, .inl f3, .inr 1000, .inr 1000, .inl f6, .inl f7]) ⟨fun _ => rfl, fun (h : zv_is (.inr 1000)) => (Nat.lt_irrefl 1000 h).elim, fun (h : zv_is (.inr 1000)) => (Nat.lt_irrefl 1000 h).elim, fun (h : zv_is (.inr 1000)) => (Nat.lt_irrefl 1000 h).elim, trivial⟩ ⟨fun _ => rfl, fun _ => rfl, fun _ => rfl, fun _ => rfl, fun (h : zv_is (.inr 1000)) => (Nat.lt_irrefl 1000 h).elim, fun (h : zv_is (.inr 1000)) => (Nat.lt_irrefl 1000 h).elim, fun _ => rfl, fun _ => rfl, trivial⟩ ?_
          exact hK
        · rw [if_pos hc2] at h
          refine zv_ald hB zd178_20 rfl rfl rfl ?_
          refine zv_ald hB zd178_21 rfl rfl rfl ?_
          refine zv_ald hB zd178_22 rfl rfl rfl ?_
          refine zv_con hB zd178_23 rfl ?_
          refine zv_ild hB zd178_24 rfl rfl ?_
          obtain ⟨r3, hr3, h⟩ := zi_bind h
          refine zv_cv hB (zv_emq (va2 := [.inr 0, .inr 1, .inr 2, .inl 0, .inl x3]) (F := [.inl f0, .inr 3, .inl f2, .inl f3, .inr 1000, .inr 1000, .inl f6, .inl f7]) (F' := [.inl r3.1, .inr 3, .inl f2, .inl f3, .inr 1000, .inr 1000, .inl r3.2.1, .inl f7]) (G := [g0, g1, g2, g3, g4, g5]) (G' := [g0, g1, r3.2.2.1, g3, r3.2.2.2.1, r3.2.2.2.2]) (ρ := [0, 1, 2, 3, 4, 5, 6, 7, 8, 9]) (φ := [0, 1, 2, 3, 4, 5, 6, 7]) (ψ := [0, 1, 2, 3, 4, 5]) [some 0, some 1, some 2, some 3, some 4, some 5, some 6, some 7] [some 0, some 1, some 2, some 3, some 4, some 5] zyw_Matcher_hide zyw_Matcher_fewestColumns zye_Matcher_fewestColumns (by decide +kernel) (zt_Matcher_hide hr3) ⟨⟨_, rfl, fun _ => rfl⟩, ⟨_, rfl, fun _ => rfl⟩, ⟨_, rfl, fun _ => rfl⟩, ⟨_, rfl, fun _ => rfl⟩, ⟨_, rfl, fun (h : zv_is (.inr 1000)) => (Nat.lt_irrefl 1000 h).elim⟩, ⟨_, rfl, fun (h : zv_is (.inr 1000)) => (Nat.lt_irrefl 1000 h).elim⟩, ⟨_, rfl, fun _ => rfl⟩, ⟨_, rfl, fun _ => rfl⟩, trivial⟩ ⟨rfl, rfl, rfl, rfl, rfl, rfl, trivial⟩ rfl rfl rfl rfl rfl rfl rfl) zd178_25 zxt179 rfl (by decide) (by decide) rfl ?_
          refine zv_iincw hB zd178_28 rfl rfl ?_
          refine zv_goto hB zd178_31 rfl ?_
          exact ih _ _ _ _ _ _ q h hK
  unfold zf_Matcher_fewestColumns at h
  refine zv_ald hB zd178_0 rfl rfl rfl ?_
  refine zv_con hB zd178_1 rfl ?_
  refine zv_putf hB zd178_2 rfl rfl (fun h => by cases h) rfl ?_
  refine zv_con hB zd178_5 rfl ?_
  refine zv_ist hB zd178_6 rfl rfl rfl ?_
  obtain ⟨q4, hq4, h⟩ := zi_bind h
  refine l0 _ _ _ _ _ _ _ q4 hq4 ?_
  show good 34 [.inr 0, .inr 1000, .inr 1000, .inr 1000] [] [.inl q4.1, .inr 3, .inl f2, .inl f3, .inr 1000, .inr 1000, .inl q4.2.1, .inl f7] [g0, g1, q4.2.2.1, g3, q4.2.2.2.1, q4.2.2.2.2]
  refine zv_ald hB zd178_34 rfl rfl rfl ?_
  refine zv_getf hB zd178_35 rfl rfl (fun _ _ => ?_)
  have hw := Option.some.inj h
  subst hw
  exact hret _ _ _ _ _ zd178_38 (by trivial) ⟨rfl, rfl, rfl⟩
end
section
/-! Methods as functions, and that they do what these do. -/
/-! X_hidden (III)I -/
-- names: 0 StarTales('arg', 0), 1 Tale(0, 0, 10), 2 View(0, 0, 12), 3 Sky(0, 0, 0), 4 Law(0, 0, 7), 5 (0, 24)(2, 7, 8), 6 (0, 13)(4, 4, 12), 7 (0, 24)(3, 1, 1), 8 (0, 24)(3, 1, 2), 9 (0, 24)(3, 1, 3), 10 (0, 14)(4, 4, 3), 11 (0, 14)(4, 4, 5), 12 (0, 14)(4, 4, 6), 13 (0, 200)(4, 4, 0), 14 (0, 40)(4, 4, 13), 15 (0, 200)(4, 4, 1), 16 (0, 24)(2, 7, 5), 17 (0, 24)(2, 7, 9), 18 Matcher(0, 0, 14), 19 (0, 72)(18, 8, 0), 20 (0, 8)(1, 6, 2), 21 (0, 24)(18, 8, 1), 22 (0, 8)(18, 8, 2)
-- fields: f0 = 0.telling_, f1 = 1.lines_, f2 = 0.ruling_, f3 = 2.sky_, f4 = 2.law_, f5 = 2.starsAsked_, f6 = 2.x_, f7 = 2.y_, f8 = 3.hour_, f9 = 3.night_, f10 = 2.shown_, f11 = 3.told_, f12 = 3.sightColumns_, f13 = 3.sightRows_, f14 = 3.clouds_, f15 = 4.tellsSeen_, f16 = 2.starsHold_, f17 = 4.clauses_, f18 = 4.answer_, f19 = 4.seenByPlace_, f20 = 4.tellsLines_, f21 = 4.linesByPlace_, f22 = 18.tale_, f23 = 18.joined_, f24 = 18.deadEnds_, f25 = 1.names_, f26 = 18.fewest_; arrays: g0 = 5, g1 = 6, g2 = 7, g3 = 8, g4 = 9, g5 = 10, g6 = 11, g7 = 12, g8 = 13, g9 = 14, g10 = 15, g11 = 16, g12 = 17, g13 = 19, g14 = 20, g15 = 21, g16 = 22; out: [('ret', None), ('f', 5), ('f', 6), ('f', 7), ('f', 10), ('f', 16), ('f', 18), ('f', 24), ('f', 26), ('g', 0), ('g', 1), ('g', 9), ('g', 11), ('g', 12), ('g', 13), ('g', 15), ('g', 16)]
abbrev zy_X_hidden : zNL := (23, [(0, 0), (1, 6), (2, 7), (3, 1), (4, 4), (18, 8)], [(0, 0, 10, 0), (1, 6, 0, 1), (0, 0, 7, 2), (2, 7, 0, 3), (2, 7, 1, 4), (2, 7, 6, 5), (2, 7, 2, 6), (2, 7, 3, 7), (3, 1, 6, 8), (3, 1, 7, 9), (2, 7, 4, 10), (3, 1, 0, 11), (3, 1, 9, 12), (3, 1, 10, 13), (3, 1, 8, 14), (4, 4, 8, 15), (2, 7, 7, 16), (4, 4, 7, 17), (4, 4, 14, 18), (4, 4, 10, 19), (4, 4, 9, 20), (4, 4, 11, 21), (18, 8, 3, 22), (18, 8, 4, 23), (18, 8, 6, 24), (1, 6, 1, 25), (18, 8, 5, 26)], [(0, 0, 12, 2), (0, 0, 0, 3), (2, 7, 8, 5), (4, 4, 12, 6), (3, 1, 1, 7), (3, 1, 2, 8), (3, 1, 3, 9), (4, 4, 3, 10), (4, 4, 5, 11), (4, 4, 6, 12), (4, 4, 0, 13), (4, 4, 13, 14), (4, 4, 1, 15), (2, 7, 5, 16), (2, 7, 9, 17), (0, 0, 14, 18), (18, 8, 0, 19), (1, 6, 2, 20), (18, 8, 1, 21), (18, 8, 2, 22)], [(5, 0, 24, 0), (6, 0, 13, 1), (7, 0, 24, 2), (8, 0, 24, 3), (9, 0, 24, 4), (10, 0, 14, 5), (11, 0, 14, 6), (12, 0, 14, 7), (13, 0, 200, 8), (14, 0, 40, 9), (15, 0, 200, 10), (16, 0, 24, 11), (17, 0, 24, 12), (19, 0, 72, 13), (20, 0, 8, 14), (21, 0, 24, 15), (22, 0, 8, 16)])
theorem zyw_X_hidden : zv_wf zy_X_hidden = true := by decide +kernel
theorem zye_X_hidden : zv_ek2 zy_X_hidden = true := by decide +kernel
def zf_X_hidden (x1 : Int) (x2 : Int) (x3 : Int) (f1 : Int) (f5 : Int) (f6 : Int) (f7 : Int) (f8 : Int) (f9 : Int) (f10 : Int) (f11 : Int) (f12 : Int) (f13 : Int) (f14 : Int) (f15 : Int) (f16 : Int) (f17 : Int) (f18 : Int) (f19 : Int) (f20 : Int) (f21 : Int) (f24 : Int) (f25 : Int) (f26 : Int) (g0 : (Int → Int)) (g1 : (Int → Int)) (g2 : (Int → Int)) (g3 : (Int → Int)) (g4 : (Int → Int)) (g5 : (Int → Int)) (g6 : (Int → Int)) (g7 : (Int → Int)) (g8 : (Int → Int)) (g9 : (Int → Int)) (g10 : (Int → Int)) (g11 : (Int → Int)) (g12 : (Int → Int)) (g13 : (Int → Int)) (g14 : (Int → Int)) (g15 : (Int → Int)) (g16 : (Int → Int)) : Option (Int × Int × Int × Int × Int × Int × Int × Int × Int × (Int → Int) × (Int → Int) × (Int → Int) × (Int → Int) × (Int → Int) × (Int → Int) × (Int → Int) × (Int → Int)) := (zf_X_isPlace x1 x2).bind fun r1 => (if r1 = 0 then (some ((-1), f5, f6, f7, f10, f16, f18, f24, f26, g0, g1, g9, g11, g12, g13, g15, g16)) else ((zf_X_isWithin x3 0 1).bind fun r3 => (if r3 = 0 then (some ((-1), f5, f6, f7, f10, f16, f18, f24, f26, g0, g1, g9, g11, g12, g13, g15, g16)) else (if f1 = 0 then (some ((-1), f5, f6, f7, f10, f16, f18, f24, f26, g0, g1, g9, g11, g12, g13, g15, g16)) else ((zf_X_lookAndDraw x1 x2 f5 f6 f7 f8 f9 f10 f11 f12 f13 f14 f15 f16 f17 f18 f19 f20 f21 g0 g1 g2 g3 g4 g5 g6 g7 g8 g9 g10 g11 g12).bind fun r6 => ((zf_Matcher_countWays_24 r6.2.2.2.1 1 f24 f25 r6.2.2.2.2.2.2.2.2.2.1 g13 g14 g15 g16).bind fun r7 => (if r7.1 = 0 then (some ((-3), r6.1, r6.2.1, r6.2.2.1, r6.2.2.2.1, r6.2.2.2.2.1, r6.2.2.2.2.2.1, r7.2.1, f26, r6.2.2.2.2.2.2.1, r6.2.2.2.2.2.2.2.1, r6.2.2.2.2.2.2.2.2.1, r6.2.2.2.2.2.2.2.2.2.1, r6.2.2.2.2.2.2.2.2.2.2, r7.2.2.1, r7.2.2.2.1, r7.2.2.2.2)) else ((zf_Matcher_fewestColumns f26 r6.2.2.2.1 f8 r7.2.1 f25 g2 r6.2.2.2.2.2.2.2.2.2.1 r7.2.2.1 g14 r7.2.2.2.1 r7.2.2.2.2).bind fun r9 => (if r9.1 = (-1) then (some ((-2), r6.1, r6.2.1, r6.2.2.1, r6.2.2.2.1, r6.2.2.2.2.1, r6.2.2.2.2.2.1, r9.2.2.1, r9.2.1, r6.2.2.2.2.2.2.1, r6.2.2.2.2.2.2.2.1, r6.2.2.2.2.2.2.2.2.1, r6.2.2.2.2.2.2.2.2.2.1, r6.2.2.2.2.2.2.2.2.2.2, r9.2.2.2.1, r9.2.2.2.2.1, r9.2.2.2.2.2)) else (if x3 = 0 then ((zf_Integer_bitCount r9.1).bind fun r12 => (some (r12, r6.1, r6.2.1, r6.2.2.1, r6.2.2.2.1, r6.2.2.2.2.1, r6.2.2.2.2.2.1, r9.2.2.1, r9.2.1, r6.2.2.2.2.2.2.1, r6.2.2.2.2.2.2.2.1, r6.2.2.2.2.2.2.2.2.1, r6.2.2.2.2.2.2.2.2.2.1, r6.2.2.2.2.2.2.2.2.2.2, r9.2.2.2.1, r9.2.2.2.2.1, r9.2.2.2.2.2))) else (some (r9.1, r6.1, r6.2.1, r6.2.2.1, r6.2.2.2.1, r6.2.2.2.2.1, r6.2.2.2.2.2.1, r9.2.2.1, r9.2.1, r6.2.2.2.2.2.2.1, r6.2.2.2.2.2.2.2.1, r6.2.2.2.2.2.2.2.2.1, r6.2.2.2.2.2.2.2.2.2.1, r6.2.2.2.2.2.2.2.2.2.2, r9.2.2.2.1, r9.2.2.2.2.1, r9.2.2.2.2.2))))))))))))
theorem zd177_0 : decode zxm177.2.1 0 = .ok (.iload_n 1, 1) := by decide +kernel
theorem zd177_1 : decode zxm177.2.1 1 = .ok (.iload_n 2, 1) := by decide +kernel
theorem zd177_2 : decode zxm177.2.1 2 = .ok (.invokestatic 130, 3) := by decide +kernel
theorem zd177_5 : decode zxm177.2.1 5 = .ok (.ifCond .eq 22, 3) := by decide +kernel
theorem zd177_8 : decode zxm177.2.1 8 = .ok (.iload_n 3, 1) := by decide +kernel
theorem zd177_9 : decode zxm177.2.1 9 = .ok (.iconst 0, 1) := by decide +kernel
theorem zd177_10 : decode zxm177.2.1 10 = .ok (.iconst 1, 1) := by decide +kernel
theorem zd177_11 : decode zxm177.2.1 11 = .ok (.invokestatic 126, 3) := by decide +kernel
theorem zd177_14 : decode zxm177.2.1 14 = .ok (.ifCond .eq 13, 3) := by decide +kernel
theorem zd177_17 : decode zxm177.2.1 17 = .ok (.aload_n 0, 1) := by decide +kernel
theorem zd177_18 : decode zxm177.2.1 18 = .ok (.getfield 69, 3) := by decide +kernel
theorem zd177_21 : decode zxm177.2.1 21 = .ok (.getfield 253, 3) := by decide +kernel
theorem zd177_24 : decode zxm177.2.1 24 = .ok (.ifCond .ne 5, 3) := by decide +kernel
theorem zd177_27 : decode zxm177.2.1 27 = .ok (.iconst (-1), 1) := by decide +kernel
theorem zd177_28 : decode zxm177.2.1 28 = .ok (.ireturn, 1) := by decide +kernel
theorem zd177_29 : decode zxm177.2.1 29 = .ok (.aload_n 0, 1) := by decide +kernel
theorem zd177_30 : decode zxm177.2.1 30 = .ok (.aload_n 0, 1) := by decide +kernel
theorem zd177_31 : decode zxm177.2.1 31 = .ok (.getfield 81, 3) := by decide +kernel
theorem zd177_34 : decode zxm177.2.1 34 = .ok (.iload_n 1, 1) := by decide +kernel
theorem zd177_35 : decode zxm177.2.1 35 = .ok (.iload_n 2, 1) := by decide +kernel
theorem zd177_36 : decode zxm177.2.1 36 = .ok (.invokevirtual 221, 3) := by decide +kernel
theorem zd177_39 : decode zxm177.2.1 39 = .ok (.aload_n 0, 1) := by decide +kernel
theorem zd177_40 : decode zxm177.2.1 40 = .ok (.getfield 96, 3) := by decide +kernel
theorem zd177_43 : decode zxm177.2.1 43 = .ok (.aload_n 0, 1) := by decide +kernel
theorem zd177_44 : decode zxm177.2.1 44 = .ok (.getfield 69, 3) := by decide +kernel
theorem zd177_47 : decode zxm177.2.1 47 = .ok (.aload_n 0, 1) := by decide +kernel
theorem zd177_48 : decode zxm177.2.1 48 = .ok (.getfield 81, 3) := by decide +kernel
theorem zd177_51 : decode zxm177.2.1 51 = .ok (.getfield 218, 3) := by decide +kernel
theorem zd177_54 : decode zxm177.2.1 54 = .ok (.aload_n 0, 1) := by decide +kernel
theorem zd177_55 : decode zxm177.2.1 55 = .ok (.getfield 81, 3) := by decide +kernel
theorem zd177_58 : decode zxm177.2.1 58 = .ok (.getfield 90, 3) := by decide +kernel
theorem zd177_61 : decode zxm177.2.1 61 = .ok (.iconst 1, 1) := by decide +kernel
theorem zd177_62 : decode zxm177.2.1 62 = .ok (.invokevirtual 256, 3) := by decide +kernel
theorem zd177_65 : decode zxm177.2.1 65 = .ok (.ifCond .ne 6, 3) := by decide +kernel
theorem zd177_68 : decode zxm177.2.1 68 = .ok (.bipush (-3), 2) := by decide +kernel
theorem zd177_70 : decode zxm177.2.1 70 = .ok (.ireturn, 1) := by decide +kernel
theorem zd177_71 : decode zxm177.2.1 71 = .ok (.aload_n 0, 1) := by decide +kernel
theorem zd177_72 : decode zxm177.2.1 72 = .ok (.getfield 96, 3) := by decide +kernel
theorem zd177_75 : decode zxm177.2.1 75 = .ok (.aload_n 0, 1) := by decide +kernel
theorem zd177_76 : decode zxm177.2.1 76 = .ok (.getfield 69, 3) := by decide +kernel
theorem zd177_79 : decode zxm177.2.1 79 = .ok (.aload_n 0, 1) := by decide +kernel
theorem zd177_80 : decode zxm177.2.1 80 = .ok (.getfield 81, 3) := by decide +kernel
theorem zd177_83 : decode zxm177.2.1 83 = .ok (.invokevirtual 379, 3) := by decide +kernel
theorem zd177_86 : decode zxm177.2.1 86 = .ok (.istore 4, 2) := by decide +kernel
theorem zd177_88 : decode zxm177.2.1 88 = .ok (.iload 4, 2) := by decide +kernel
theorem zd177_90 : decode zxm177.2.1 90 = .ok (.iconst (-1), 1) := by decide +kernel
theorem zd177_91 : decode zxm177.2.1 91 = .ok (.if_icmp .ne 6, 3) := by decide +kernel
theorem zd177_94 : decode zxm177.2.1 94 = .ok (.bipush (-2), 2) := by decide +kernel
theorem zd177_96 : decode zxm177.2.1 96 = .ok (.ireturn, 1) := by decide +kernel
theorem zd177_97 : decode zxm177.2.1 97 = .ok (.iload_n 3, 1) := by decide +kernel
theorem zd177_98 : decode zxm177.2.1 98 = .ok (.ifCond .ne 11, 3) := by decide +kernel
theorem zd177_101 : decode zxm177.2.1 101 = .ok (.iload 4, 2) := by decide +kernel
theorem zd177_103 : decode zxm177.2.1 103 = .ok (.invokestatic 235, 3) := by decide +kernel
theorem zd177_106 : decode zxm177.2.1 106 = .ok (.goto 5, 3) := by decide +kernel
theorem zd177_109 : decode zxm177.2.1 109 = .ok (.iload 4, 2) := by decide +kernel
theorem zd177_111 : decode zxm177.2.1 111 = .ok (.ireturn, 1) := by decide +kernel
theorem zt_X_hidden {x1 : Int} {x2 : Int} {x3 : Int} {f1 : Int} {f5 : Int} {f6 : Int} {f7 : Int} {f8 : Int} {f9 : Int} {f10 : Int} {f11 : Int} {f12 : Int} {f13 : Int} {f14 : Int} {f15 : Int} {f16 : Int} {f17 : Int} {f18 : Int} {f19 : Int} {f20 : Int} {f21 : Int} {f24 : Int} {f25 : Int} {f26 : Int} {g0 : (Int → Int)} {g1 : (Int → Int)} {g2 : (Int → Int)} {g3 : (Int → Int)} {g4 : (Int → Int)} {g5 : (Int → Int)} {g6 : (Int → Int)} {g7 : (Int → Int)} {g8 : (Int → Int)} {g9 : (Int → Int)} {g10 : (Int → Int)} {g11 : (Int → Int)} {g12 : (Int → Int)} {g13 : (Int → Int)} {g14 : (Int → Int)} {g15 : (Int → Int)} {g16 : (Int → Int)} {o : Int × Int × Int × Int × Int × Int × Int × Int × Int × (Int → Int) × (Int → Int) × (Int → Int) × (Int → Int) × (Int → Int) × (Int → Int) × (Int → Int) × (Int → Int)} (h : zf_X_hidden x1 x2 x3 f1 f5 f6 f7 f8 f9 f10 f11 f12 f13 f14 f15 f16 f17 f18 f19 f20 f21 f24 f25 f26 g0 g1 g2 g3 g4 g5 g6 g7 g8 g9 g10 g11 g12 g13 g14 g15 g16 = some o) : zv_Fn z_TB z_cl z_KX zy_X_hidden zxm177 (21, 1260) [.inr 0, .inl x1, .inl x2, .inl x3] [.inr 1, .inl f1, .inr 4, .inr 1000, .inr 1000, .inl f5, .inl f6, .inl f7, .inl f8, .inl f9, .inl f10, .inl f11, .inl f12, .inl f13, .inl f14, .inl f15, .inl f16, .inl f17, .inl f18, .inl f19, .inl f20, .inl f21, .inr 1000, .inr 1000, .inl f24, .inl f25, .inl f26] [g0, g1, g2, g3, g4, g5, g6, g7, g8, g9, g10, g11, g12, g13, g14, g15, g16] (some o.1) [.inr 1, .inl f1, .inr 4, .inr 1000, .inr 1000, .inl o.2.1, .inl o.2.2.1, .inl o.2.2.2.1, .inl f8, .inl f9, .inl o.2.2.2.2.1, .inl f11, .inl f12, .inl f13, .inl f14, .inl f15, .inl o.2.2.2.2.2.1, .inl f17, .inl o.2.2.2.2.2.2.1, .inl f19, .inl f20, .inl f21, .inr 1000, .inr 1000, .inl o.2.2.2.2.2.2.2.1, .inl f25, .inl o.2.2.2.2.2.2.2.2.1] [o.2.2.2.2.2.2.2.2.2.1, o.2.2.2.2.2.2.2.2.2.2.1, g2, g3, g4, g5, g6, g7, g8, o.2.2.2.2.2.2.2.2.2.2.2.1, g10, o.2.2.2.2.2.2.2.2.2.2.2.2.1, o.2.2.2.2.2.2.2.2.2.2.2.2.2.1, o.2.2.2.2.2.2.2.2.2.2.2.2.2.2.1, g14, o.2.2.2.2.2.2.2.2.2.2.2.2.2.2.2.1, o.2.2.2.2.2.2.2.2.2.2.2.2.2.2.2.2] := zv_meth (K := (z_KF0, z_KC0, z_KL0, z_KT0, [], [], [], none)) (FT := z_FT) (MT := z_MT) (n := 4) zxp177 (z_ks0 _ (fun _ h => List.mem_cons_of_mem _ h) _ _ _ _ (fun j r h _ => by cases h)) (fun _ _ => zs_KX_p) zyw_X_hidden (fun va F G h => by obtain ⟨rfl, _⟩ := h; rfl) (fun va F G h => by obtain ⟨rfl, _⟩ := h; rfl) rfl fun good va F G hB hret hvret hP => by
  obtain ⟨rfl, rfl, rfl⟩ := hP
  unfold zf_X_hidden at h
  refine zv_ild hB zd177_0 rfl rfl ?_
  refine zv_ild hB zd177_1 rfl rfl ?_
  obtain ⟨r1, hr1, h⟩ := zi_bind h
  refine zv_cs hB (zv_emq (va2 := [.inl x1, .inl x2]) (F := [.inr 1, .inl f1, .inr 4, .inr 1000, .inr 1000, .inl f5, .inl f6, .inl f7, .inl f8, .inl f9, .inl f10, .inl f11, .inl f12, .inl f13, .inl f14, .inl f15, .inl f16, .inl f17, .inl f18, .inl f19, .inl f20, .inl f21, .inr 1000, .inr 1000, .inl f24, .inl f25, .inl f26]) (F' := [.inr 1, .inl f1, .inr 4, .inr 1000, .inr 1000, .inl f5, .inl f6, .inl f7, .inl f8, .inl f9, .inl f10, .inl f11, .inl f12, .inl f13, .inl f14, .inl f15, .inl f16, .inl f17, .inl f18, .inl f19, .inl f20, .inl f21, .inr 1000, .inr 1000, .inl f24, .inl f25, .inl f26]) (G := [g0, g1, g2, g3, g4, g5, g6, g7, g8, g9, g10, g11, g12, g13, g14, g15, g16]) (G' := [g0, g1, g2, g3, g4, g5, g6, g7, g8, g9, g10, g11, g12, g13, g14, g15, g16]) (ρ := []) (φ := []) (ψ := []) [none, none, none, none, none, none, none, none, none, none, none, none, none, none, none, none, none, none, none, none, none, none, none, none, none, none, none] [none, none, none, none, none, none, none, none, none, none, none, none, none, none, none, none, none] zyw_X_isPlace zyw_X_hidden zye_X_hidden (by decide +kernel) (zt_X_isPlace hr1) trivial trivial rfl rfl rfl rfl rfl rfl rfl) zd177_2 zxt16 rfl (by decide) (by decide) rfl ?_
  refine zv_zeq hB zd177_5 rfl (fun hc2 => ?_) (fun hc2 => ?_)
  · rw [if_pos hc2] at h
    refine zv_con hB zd177_27 rfl ?_
    have hw := Option.some.inj h
    subst hw
    exact hret _ _ _ _ _ zd177_28 (by trivial) ⟨rfl, rfl, rfl⟩
  · rw [if_neg hc2] at h
    refine zv_ild hB zd177_8 rfl rfl ?_
    refine zv_con hB zd177_9 rfl ?_
    refine zv_con hB zd177_10 rfl ?_
    obtain ⟨r3, hr3, h⟩ := zi_bind h
    refine zv_cs hB (zv_emq (va2 := [.inl x3, .inl 0, .inl 1]) (F := [.inr 1, .inl f1, .inr 4, .inr 1000, .inr 1000, .inl f5, .inl f6, .inl f7, .inl f8, .inl f9, .inl f10, .inl f11, .inl f12, .inl f13, .inl f14, .inl f15, .inl f16, .inl f17, .inl f18, .inl f19, .inl f20, .inl f21, .inr 1000, .inr 1000, .inl f24, .inl f25, .inl f26]) (F' := [.inr 1, .inl f1, .inr 4, .inr 1000, .inr 1000, .inl f5, .inl f6, .inl f7, .inl f8, .inl f9, .inl f10, .inl f11, .inl f12, .inl f13, .inl f14, .inl f15, .inl f16, .inl f17, .inl f18, .inl f19, .inl f20, .inl f21, .inr 1000, .inr 1000, .inl f24, .inl f25, .inl f26]) (G := [g0, g1, g2, g3, g4, g5, g6, g7, g8, g9, g10, g11, g12, g13, g14, g15, g16]) (G' := [g0, g1, g2, g3, g4, g5, g6, g7, g8, g9, g10, g11, g12, g13, g14, g15, g16]) (ρ := []) (φ := []) (ψ := []) [none, none, none, none, none, none, none, none, none, none, none, none, none, none, none, none, none, none, none, none, none, none, none, none, none, none, none] [none, none, none, none, none, none, none, none, none, none, none, none, none, none, none, none, none] zyw_X_isWithin zyw_X_hidden zye_X_hidden (by decide +kernel) (zt_X_isWithin hr3) trivial trivial rfl rfl rfl rfl rfl rfl rfl) zd177_11 zxt15 rfl (by decide) (by decide) rfl ?_
    refine zv_zeq hB zd177_14 rfl (fun hc4 => ?_) (fun hc4 => ?_)
    · rw [if_pos hc4] at h
      refine zv_con hB zd177_27 rfl ?_
      have hw := Option.some.inj h
      subst hw
      exact hret _ _ _ _ _ zd177_28 (by trivial) ⟨rfl, rfl, rfl⟩
    · rw [if_neg hc4] at h
      refine zv_ald hB zd177_17 rfl rfl rfl ?_
      refine zv_getq hB zd177_18 rfl rfl rfl ?_
      refine zv_getf hB zd177_21 rfl rfl (fun _ _ => ?_)
      refine zv_zne hB zd177_24 rfl (fun hc5 => ?_) (fun hc5 => ?_)
      · rw [if_neg hc5] at h
        refine zv_ald hB zd177_29 rfl rfl rfl ?_
        refine zv_ald hB zd177_30 rfl rfl rfl ?_
        refine zv_getr hB zd177_31 rfl ?_
        refine zv_ild hB zd177_34 rfl rfl ?_
        refine zv_ild hB zd177_35 rfl rfl ?_
        obtain ⟨r6, hr6, h⟩ := zi_bind h
        refine zv_cv hB (zv_emq (va2 := [.inr 0, .inr 2, .inl x1, .inl x2]) (F := [.inr 1, .inl f1, .inr 4, .inr 1000, .inr 1000, .inl f5, .inl f6, .inl f7, .inl f8, .inl f9, .inl f10, .inl f11, .inl f12, .inl f13, .inl f14, .inl f15, .inl f16, .inl f17, .inl f18, .inl f19, .inl f20, .inl f21, .inr 1000, .inr 1000, .inl f24, .inl f25, .inl f26]) (F' := [.inr 1, .inl f1, .inr 4, .inr 3, .inr 4, .inl r6.1, .inl r6.2.1, .inl r6.2.2.1, .inl f8, .inl f9, .inl r6.2.2.2.1, .inl f11, .inl f12, .inl f13, .inl f14, .inl f15, .inl r6.2.2.2.2.1, .inl f17, .inl r6.2.2.2.2.2.1, .inl f19, .inl f20, .inl f21, .inr 1000, .inr 1000, .inl f24, .inl f25, .inl f26]) (G := [g0, g1, g2, g3, g4, g5, g6, g7, g8, g9, g10, g11, g12, g13, g14, g15, g16]) (G' := [r6.2.2.2.2.2.2.1, r6.2.2.2.2.2.2.2.1, g2, g3, g4, g5, g6, g7, g8, r6.2.2.2.2.2.2.2.2.1, g10, r6.2.2.2.2.2.2.2.2.2.1, r6.2.2.2.2.2.2.2.2.2.2, g13, g14, g15, g16]) (ρ := [0, 2, 3, 4, 5, 6, 7, 8, 9, 10, 11, 12, 13, 14, 15, 16, 17]) (φ := [2, 3, 4, 5, 6, 7, 8, 9, 10, 11, 12, 13, 14, 15, 16, 17, 18, 19, 20, 21]) (ψ := [0, 1, 2, 3, 4, 5, 6, 7, 8, 9, 10, 11, 12]) [none, none, some 0, some 1, some 2, some 3, some 4, some 5, some 6, some 7, some 8, some 9, some 10, some 11, some 12, some 13, some 14, some 15, some 16, some 17, some 18, some 19, none, none, none, none, none] [some 0, some 1, some 2, some 3, some 4, some 5, some 6, some 7, some 8, some 9, some 10, some 11, some 12, none, none, none, none] zyw_X_lookAndDraw zyw_X_hidden zye_X_hidden (by decide +kernel) (zt_X_lookAndDraw hr6) ⟨⟨_, rfl, fun _ => rfl⟩, ⟨_, rfl, fun (h : zv_is (.inr 1000)) => (Nat.lt_irrefl 1000 h).elim⟩, ⟨_, rfl, fun (h : zv_is (.inr 1000)) => (Nat.lt_irrefl 1000 h).elim⟩, ⟨_, rfl, fun _ => rfl⟩, ⟨_, rfl, fun _ => rfl⟩, ⟨_, rfl, fun _ => rfl⟩, ⟨_, rfl, fun _ => rfl⟩, ⟨_, rfl, fun _ => rfl⟩, ⟨_, rfl, fun _ => rfl⟩, ⟨_, rfl, fun _ => rfl⟩, ⟨_, rfl, fun _ => rfl⟩, ⟨_, rfl, fun _ => rfl⟩, ⟨_, rfl, fun _ => rfl⟩, ⟨_, rfl, fun _ => rfl⟩, ⟨_, rfl, fun _ => rfl⟩, ⟨_, rfl, fun _ => rfl⟩, ⟨_, rfl, fun _ => rfl⟩, ⟨_, rfl, fun _ => rfl⟩, ⟨_, rfl, fun _ => rfl⟩, ⟨_, rfl, fun _ => rfl⟩, trivial⟩ ⟨rfl, rfl, rfl, rfl, rfl, rfl, rfl, rfl, rfl, rfl, rfl, rfl, rfl, trivial⟩ rfl rfl rfl rfl rfl rfl rfl) zd177_36 zxt96 rfl (by decide) (by decide) rfl ?_
        refine zv_ald hB zd177_39 rfl rfl rfl ?_
        refine zv_getr hB zd177_40 rfl ?_
        refine zv_ald hB zd177_43 rfl rfl rfl ?_
        refine zv_getq hB zd177_44 rfl rfl rfl ?_
        refine zv_ald hB zd177_47 rfl rfl rfl ?_
        refine zv_getr hB zd177_48 rfl ?_
        refine zv_getf hB zd177_51 rfl rfl (fun _ _ => ?_)
        refine zv_ald hB zd177_54 rfl rfl rfl ?_
        refine zv_getr hB zd177_55 rfl ?_
        refine zv_getr hB zd177_58 rfl ?_
        refine zv_con hB zd177_61 rfl ?_
        obtain ⟨r7, hr7, h⟩ := zi_bind h
        refine zv_cv hB (zv_emq (va2 := [.inr 18, .inr 1, .inl r6.2.2.2.1, .inr 16, .inl 1]) (F := [.inr 1, .inl f1, .inr 4, .inr 3, .inr 4, .inl r6.1, .inl r6.2.1, .inl r6.2.2.1, .inl f8, .inl f9, .inl r6.2.2.2.1, .inl f11, .inl f12, .inl f13, .inl f14, .inl f15, .inl r6.2.2.2.2.1, .inl f17, .inl r6.2.2.2.2.2.1, .inl f19, .inl f20, .inl f21, .inr 1000, .inr 1000, .inl f24, .inl f25, .inl f26]) (F' := [.inr 1, .inl f1, .inr 4, .inr 3, .inr 4, .inl r6.1, .inl r6.2.1, .inl r6.2.2.1, .inl f8, .inl f9, .inl r6.2.2.2.1, .inl f11, .inl f12, .inl f13, .inl f14, .inl f15, .inl r6.2.2.2.2.1, .inl f17, .inl r6.2.2.2.2.2.1, .inl f19, .inl f20, .inl f21, .inr 1, .inr 16, .inl r7.2.1, .inl f25, .inl f26]) (G := [r6.2.2.2.2.2.2.1, r6.2.2.2.2.2.2.2.1, g2, g3, g4, g5, g6, g7, g8, r6.2.2.2.2.2.2.2.2.1, g10, r6.2.2.2.2.2.2.2.2.2.1, r6.2.2.2.2.2.2.2.2.2.2, g13, g14, g15, g16]) (G' := [r6.2.2.2.2.2.2.1, r6.2.2.2.2.2.2.2.1, g2, g3, g4, g5, g6, g7, g8, r6.2.2.2.2.2.2.2.2.1, g10, r6.2.2.2.2.2.2.2.2.2.1, r6.2.2.2.2.2.2.2.2.2.2, r7.2.2.1, g14, r7.2.2.2.1, r7.2.2.2.2]) (ρ := [18, 1, 16, 19, 20, 21, 22]) (φ := [22, 23, 24, 25]) (ψ := [11, 13, 14, 15, 16]) [none, none, none, none, none, none, none, none, none, none, none, none, none, none, none, none, none, none, none, none, none, none, some 0, some 1, some 2, some 3, none] [none, none, none, none, none, none, none, none, none, none, none, some 0, none, some 1, some 2, some 3, some 4] zyw_Matcher_countWays_24 zyw_X_hidden zye_X_hidden (by decide +kernel) (zt_Matcher_countWays_24 hr7) ⟨⟨_, rfl, fun (h : zv_is (.inr 1000)) => (Nat.lt_irrefl 1000 h).elim⟩, ⟨_, rfl, fun (h : zv_is (.inr 1000)) => (Nat.lt_irrefl 1000 h).elim⟩, ⟨_, rfl, fun _ => rfl⟩, ⟨_, rfl, fun _ => rfl⟩, trivial⟩ ⟨rfl, rfl, rfl, rfl, rfl, trivial⟩ rfl rfl rfl rfl rfl rfl rfl) zd177_62 zxt112 rfl (by decide) (by decide) rfl ?_
        refine zv_zne hB zd177_65 rfl (fun hc8 => ?_) (fun hc8 => ?_)
        · rw [if_neg hc8] at h
          refine zv_ald hB zd177_71 rfl rfl rfl ?_
          refine zv_getr hB zd177_72 rfl ?_
          refine zv_ald hB zd177_75 rfl rfl rfl ?_
          refine zv_getq hB zd177_76 rfl rfl rfl ?_
          refine zv_ald hB zd177_79 rfl rfl rfl ?_
          refine zv_getr hB zd177_80 rfl ?_
          obtain ⟨r9, hr9, h⟩ := zi_bind h
          refine zv_cv hB (zv_emq (va2 := [.inr 18, .inr 1, .inr 2]) (F := [.inr 1, .inl f1, .inr 4, .inr 3, .inr 4, .inl r6.1, .inl r6.2.1, .inl r6.2.2.1, .inl f8, .inl f9, .inl r6.2.2.2.1, .inl f11, .inl f12, .inl f13, .inl f14, .inl f15, .inl r6.2.2.2.2.1, .inl f17, .inl r6.2.2.2.2.2.1, .inl f19, .inl f20, .inl f21, .inr 1, .inr 16, .inl r7.2.1, .inl f25, .inl f26]) (F' := [.inr 1, .inl f1, .inr 4, .inr 3, .inr 4, .inl r6.1, .inl r6.2.1, .inl r6.2.2.1, .inl f8, .inl f9, .inl r6.2.2.2.1, .inl f11, .inl f12, .inl f13, .inl f14, .inl f15, .inl r6.2.2.2.2.1, .inl f17, .inl r6.2.2.2.2.2.1, .inl f19, .inl f20, .inl f21, .inr 1000, .inr 1000, .inl r9.2.2.1, .inl f25, .inl r9.2.1]) (G := [r6.2.2.2.2.2.2.1, r6.2.2.2.2.2.2.2.1, g2, g3, g4, g5, g6, g7, g8, r6.2.2.2.2.2.2.2.2.1, g10, r6.2.2.2.2.2.2.2.2.2.1, r6.2.2.2.2.2.2.2.2.2.2, r7.2.2.1, g14, r7.2.2.2.1, r7.2.2.2.2]) (G' := [r6.2.2.2.2.2.2.1, r6.2.2.2.2.2.2.2.1, g2, g3, g4, g5, g6, g7, g8, r6.2.2.2.2.2.2.2.2.1, g10, r6.2.2.2.2.2.2.2.2.2.1, r6.2.2.2.2.2.2.2.2.2.2, r9.2.2.2.1, g14, r9.2.2.2.2.1, r9.2.2.2.2.2]) (ρ := [18, 1, 2, 3, 7, 16, 19, 20, 21, 22]) (φ := [26, 3, 10, 8, 22, 23, 24, 25]) (ψ := [2, 11, 13, 14, 15, 16]) [none, none, none, some 1, none, none, none, none, some 3, none, some 2, none, none, none, none, none, none, none, none, none, none, none, some 4, some 5, some 6, some 7, some 0] [none, none, some 0, none, none, none, none, none, none, none, none, some 1, none, some 2, some 3, some 4, some 5] zyw_Matcher_fewestColumns zyw_X_hidden zye_X_hidden (by decide +kernel) (zt_Matcher_fewestColumns hr9) ⟨⟨_, rfl, fun _ => rfl⟩, ⟨_, rfl, fun _ => rfl⟩, ⟨_, rfl, fun _ => rfl⟩, ⟨_, rfl, fun _ => rfl⟩, ⟨_, rfl, fun (h : zv_is (.inr 1000)) => (Nat.lt_irrefl 1000 h).elim⟩, ⟨_, rfl, fun (h : zv_is (.inr 1000)) => (Nat.lt_irrefl 1000 h).elim⟩, ⟨_, rfl, fun _ => rfl⟩, ⟨_, rfl, fun _ => rfl⟩, trivial⟩ ⟨rfl, rfl, rfl, rfl, rfl, rfl, trivial⟩ rfl rfl rfl rfl rfl rfl rfl) zd177_83 zxt178 rfl (by decide) (by decide) rfl ?_
          refine zv_ist hB zd177_86 rfl rfl rfl ?_
          refine zv_ild hB zd177_88 rfl rfl ?_
          refine zv_con hB zd177_90 rfl ?_
          refine zv_cne hB zd177_91 rfl (fun hc10 => ?_) (fun hc10 => ?_)
          · rw [if_neg hc10] at h
            refine zv_ild hB zd177_97 rfl rfl ?_
            refine zv_zne hB zd177_98 rfl (fun hc11 => ?_) (fun hc11 => ?_)
            · rw [if_neg hc11] at h
              refine zv_ild hB zd177_109 rfl rfl ?_
              have hw := Option.some.inj h
              refine zv_wk hB (L' := [.inr 0, .inl x1, .inl x2, .inl x3, .inl r9.1]) (F' := [.inr 1, .inl f1, .inr 4, .inr 1000, .inr 1000, .inl r6.1, .inl r6.2.1, .inl r6.2.2.1, .inl f8, .inl f9, .inl r6.2.2.2.1, .inl f11, .inl f12, .inl f13, .inl f14, .inl f15, .inl r6.2.2.2.2.1, .inl f17, .inl r6.2.2.2.2.2.1, .inl f19, .inl f20, .inl f21, .inr 1000, .inr 1000, .inl r9.2.2.1, .inl f25, .inl r9.2.1]) ⟨fun _ => rfl, fun _ => rfl, fun _ => rfl, fun _ => rfl, fun _ => rfl, trivial⟩ ⟨fun _ => rfl, fun _ => rfl, fun _ => rfl, fun (h : zv_is (.inr 1000)) => (Nat.lt_irrefl 1000 h).elim, fun (h : zv_is (.inr 1000)) => (Nat.lt_irrefl 1000 h).elim, fun _ => rfl, fun _ => rfl, fun _ => rfl, fun _ => rfl, fun _ => rfl, fun _ => rfl, fun _ => rfl, fun _ => rfl, fun _ => rfl, fun _ => rfl, fun _ => rfl, fun _ => rfl, fun _ => rfl, fun _ => rfl, fun _ => rfl, fun _ => rfl, fun _ => rfl, fun (h : zv_is (.inr 1000)) => (Nat.lt_irrefl 1000 h).elim, fun (h : zv_is (.inr 1000)) => (Nat.lt_irrefl 1000 h).elim, fun _ => rfl, fun _ => rfl, fun _ => rfl, trivial⟩ ?_
              subst hw
              exact hret _ _ _ _ _ zd177_111 (by trivial) ⟨rfl, rfl, rfl⟩
            · rw [if_pos hc11] at h
              refine zv_ild hB zd177_101 rfl rfl ?_
              obtain ⟨r12, hr12, h⟩ := zi_bind h
              refine zv_cs hB (zv_emq (va2 := [.inl r9.1]) (F := [.inr 1, .inl f1, .inr 4, .inr 3, .inr 4, .inl r6.1, .inl r6.2.1, .inl r6.2.2.1, .inl f8, .inl f9, .inl r6.2.2.2.1, .inl f11, .inl f12, .inl f13, .inl f14, .inl f15, .inl r6.2.2.2.2.1, .inl f17, .inl r6.2.2.2.2.2.1, .inl f19, .inl f20, .inl f21, .inr 1000, .inr 1000, .inl r9.2.2.1, .inl f25, .inl r9.2.1]) (F' := [.inr 1, .inl f1, .inr 4, .inr 3, .inr 4, .inl r6.1, .inl r6.2.1, .inl r6.2.2.1, .inl f8, .inl f9, .inl r6.2.2.2.1, .inl f11, .inl f12, .inl f13, .inl f14, .inl f15, .inl r6.2.2.2.2.1, .inl f17, .inl r6.2.2.2.2.2.1, .inl f19, .inl f20, .inl f21, .inr 1000, .inr 1000, .inl r9.2.2.1, .inl f25, .inl r9.2.1]) (G := [r6.2.2.2.2.2.2.1, r6.2.2.2.2.2.2.2.1, g2, g3, g4, g5, g6, g7, g8, r6.2.2.2.2.2.2.2.2.1, g10, r6.2.2.2.2.2.2.2.2.2.1, r6.2.2.2.2.2.2.2.2.2.2, r9.2.2.2.1, g14, r9.2.2.2.2.1, r9.2.2.2.2.2]) (G' := [r6.2.2.2.2.2.2.1, r6.2.2.2.2.2.2.2.1, g2, g3, g4, g5, g6, g7, g8, r6.2.2.2.2.2.2.2.2.1, g10, r6.2.2.2.2.2.2.2.2.2.1, r6.2.2.2.2.2.2.2.2.2.2, r9.2.2.2.1, g14, r9.2.2.2.2.1, r9.2.2.2.2.2]) (ρ := []) (φ := []) (ψ := []) [none, none, none, none, none, none, none, none, none, none, none, none, none, none, none, none, none, none, none, none, none, none, none, none, none, none, none] [none, none, none, none, none, none, none, none, none, none, none, none, none, none, none, none, none] zyw_Integer_bitCount zyw_X_hidden zye_X_hidden (by decide +kernel) (zt_Integer_bitCount hr12) trivial trivial rfl rfl rfl rfl rfl rfl rfl) zd177_103 zxt102 rfl (by decide) (by decide) rfl ?_
              refine zv_goto hB zd177_106 rfl ?_
              have hw := Option.some.inj h
              refine zv_wk hB (L' := [.inr 0, .inl x1, .inl x2, .inl x3, .inl r9.1]) (F' := [.inr 1, .inl f1, .inr 4, .inr 1000, .inr 1000, .inl r6.1, .inl r6.2.1, .inl r6.2.2.1, .inl f8, .inl f9, .inl r6.2.2.2.1, .inl f11, .inl f12, .inl f13, .inl f14, .inl f15, .inl r6.2.2.2.2.1, .inl f17, .inl r6.2.2.2.2.2.1, .inl f19, .inl f20, .inl f21, .inr 1000, .inr 1000, .inl r9.2.2.1, .inl f25, .inl r9.2.1]) ⟨fun _ => rfl, fun _ => rfl, fun _ => rfl, fun _ => rfl, fun _ => rfl, trivial⟩ ⟨fun _ => rfl, fun _ => rfl, fun _ => rfl, fun (h : zv_is (.inr 1000)) => (Nat.lt_irrefl 1000 h).elim, fun (h : zv_is (.inr 1000)) => (Nat.lt_irrefl 1000 h).elim, fun _ => rfl, fun _ => rfl, fun _ => rfl, fun _ => rfl, fun _ => rfl, fun _ => rfl, fun _ => rfl, fun _ => rfl, fun _ => rfl, fun _ => rfl, fun _ => rfl, fun _ => rfl, fun _ => rfl, fun _ => rfl, fun _ => rfl, fun _ => rfl, fun _ => rfl, fun (h : zv_is (.inr 1000)) => (Nat.lt_irrefl 1000 h).elim, fun (h : zv_is (.inr 1000)) => (Nat.lt_irrefl 1000 h).elim, fun _ => rfl, fun _ => rfl, fun _ => rfl, trivial⟩ ?_
              subst hw
              exact hret _ _ _ _ _ zd177_111 (by trivial) ⟨rfl, rfl, rfl⟩
          · rw [if_pos hc10] at h
            refine zv_con hB zd177_94 rfl ?_
            have hw := Option.some.inj h
            refine zv_wk hB (L' := [.inr 0, .inl x1, .inl x2, .inl x3, .inl r9.1]) (F' := [.inr 1, .inl f1, .inr 4, .inr 1000, .inr 1000, .inl r6.1, .inl r6.2.1, .inl r6.2.2.1, .inl f8, .inl f9, .inl r6.2.2.2.1, .inl f11, .inl f12, .inl f13, .inl f14, .inl f15, .inl r6.2.2.2.2.1, .inl f17, .inl r6.2.2.2.2.2.1, .inl f19, .inl f20, .inl f21, .inr 1000, .inr 1000, .inl r9.2.2.1, .inl f25, .inl r9.2.1]) ⟨fun _ => rfl, fun _ => rfl, fun _ => rfl, fun _ => rfl, fun _ => rfl, trivial⟩ ⟨fun _ => rfl, fun _ => rfl, fun _ => rfl, fun (h : zv_is (.inr 1000)) => (Nat.lt_irrefl 1000 h).elim, fun (h : zv_is (.inr 1000)) => (Nat.lt_irrefl 1000 h).elim, fun _ => rfl, fun _ => rfl, fun _ => rfl, fun _ => rfl, fun _ => rfl, fun _ => rfl, fun _ => rfl, fun _ => rfl, fun _ => rfl, fun _ => rfl, fun _ => rfl, fun _ => rfl, fun _ => rfl, fun _ => rfl, fun _ => rfl, fun _ => rfl, fun _ => rfl, fun (h : zv_is (.inr 1000)) => (Nat.lt_irrefl 1000 h).elim, fun (h : zv_is (.inr 1000)) => (Nat.lt_irrefl 1000 h).elim, fun _ => rfl, fun _ => rfl, fun _ => rfl, trivial⟩ ?_
            subst hw
            exact hret _ _ _ _ _ zd177_96 (by trivial) ⟨rfl, rfl, rfl⟩
        · rw [if_pos hc8] at h
          refine zv_con hB zd177_68 rfl ?_
          have hw := Option.some.inj h
          refine zv_wk hB (L' := [.inr 0, .inl x1, .inl x2, .inl x3, .inr 1000]) (F' := [.inr 1, .inl f1, .inr 4, .inr 1000, .inr 1000, .inl r6.1, .inl r6.2.1, .inl r6.2.2.1, .inl f8, .inl f9, .inl r6.2.2.2.1, .inl f11, .inl f12, .inl f13, .inl f14, .inl f15, .inl r6.2.2.2.2.1, .inl f17, .inl r6.2.2.2.2.2.1, .inl f19, .inl f20, .inl f21, .inr 1000, .inr 1000, .inl r7.2.1, .inl f25, .inl f26]) ⟨fun _ => rfl, fun _ => rfl, fun _ => rfl, fun _ => rfl, fun _ => rfl, trivial⟩ ⟨fun _ => rfl, fun _ => rfl, fun _ => rfl, fun (h : zv_is (.inr 1000)) => (Nat.lt_irrefl 1000 h).elim, fun (h : zv_is (.inr 1000)) => (Nat.lt_irrefl 1000 h).elim, fun _ => rfl, fun _ => rfl, fun _ => rfl, fun _ => rfl, fun _ => rfl, fun _ => rfl, fun _ => rfl, fun _ => rfl, fun _ => rfl, fun _ => rfl, fun _ => rfl, fun _ => rfl, fun _ => rfl, fun _ => rfl, fun _ => rfl, fun _ => rfl, fun _ => rfl, fun (h : zv_is (.inr 1000)) => (Nat.lt_irrefl 1000 h).elim, fun (h : zv_is (.inr 1000)) => (Nat.lt_irrefl 1000 h).elim, fun _ => rfl, fun _ => rfl, fun _ => rfl, trivial⟩ ?_
          subst hw
          exact hret _ _ _ _ _ zd177_70 (by trivial) ⟨rfl, rfl, rfl⟩
      · rw [if_pos hc5] at h
        refine zv_con hB zd177_27 rfl ?_
        have hw := Option.some.inj h
        subst hw
        exact hret _ _ _ _ _ zd177_28 (by trivial) ⟨rfl, rfl, rfl⟩
/-! X_isLogBytes (I)Z -/
-- names: 0 StarTales('arg', 0), 1 Tape(0, 0, 6), 2 (0, 220)(1, 3, 0)
-- fields: ; arrays: g0 = 2; out: [('ret', None)]
abbrev zy_X_isLogBytes : zNL := (3, [(0, 0), (1, 3)], [], [(0, 0, 6, 1), (1, 3, 0, 2)], [(2, 0, 220, 0)])
theorem zyw_X_isLogBytes : zv_wf zy_X_isLogBytes = true := by decide +kernel
theorem zye_X_isLogBytes : zv_ek2 zy_X_isLogBytes = true := by decide +kernel
def zf_X_isLogBytes_l0_b (x1 : Int) (g0 : (Int → Int)) (rec : Int → Option (((Unit) ⊕ (Int)))) (x2 : Int) : Option (((Unit) ⊕ (Int))) := if x2 < x1 then ((zf_Tape_byteAt (zi_w (2 * x2)) g0).bind fun r2 => (if 1 < r2 then (some (.inr 0)) else (if x2 < (zi_w (x1 - 1)) then ((zf_Tape_byteAt (zi_w ((zi_w (2 * x2)) + 1)) g0).bind fun r5 => (if 4 < r5 then (some (.inr 0)) else (rec (zi_w (x2 + 1))))) else (rec (zi_w (x2 + 1)))))) else (some (.inl ()))
def zf_X_isLogBytes_l0 (x1 : Int) (g0 : (Int → Int)) : Nat → Int → Option (((Unit) ⊕ (Int)))
  | 0, _ => none
  | n + 1, x2 => zf_X_isLogBytes_l0_b x1 g0 (zf_X_isLogBytes_l0 x1 g0 n) x2
def zf_X_isLogBytes (x1 : Int) (g0 : (Int → Int)) : Option (Int) := (zf_X_isLogBytes_l0 x1 g0 zi_fu 0).bind fun q7 => Sum.elim (fun e8 => (some 1)) (fun w9 => some w9) q7
theorem zd183_0 : decode zxm183.2.1 0 = .ok (.iconst 0, 1) := by decide +kernel
theorem zd183_1 : decode zxm183.2.1 1 = .ok (.istore_n 2, 1) := by decide +kernel
theorem zd183_2 : decode zxm183.2.1 2 = .ok (.iload_n 2, 1) := by decide +kernel
theorem zd183_3 : decode zxm183.2.1 3 = .ok (.iload_n 1, 1) := by decide +kernel
theorem zd183_4 : decode zxm183.2.1 4 = .ok (.if_icmp .ge 48, 3) := by decide +kernel
theorem zd183_7 : decode zxm183.2.1 7 = .ok (.aload_n 0, 1) := by decide +kernel
theorem zd183_8 : decode zxm183.2.1 8 = .ok (.getfield 39, 3) := by decide +kernel
theorem zd183_11 : decode zxm183.2.1 11 = .ok (.iconst 2, 1) := by decide +kernel
theorem zd183_12 : decode zxm183.2.1 12 = .ok (.iload_n 2, 1) := by decide +kernel
theorem zd183_13 : decode zxm183.2.1 13 = .ok (.imul, 1) := by decide +kernel
theorem zd183_14 : decode zxm183.2.1 14 = .ok (.invokevirtual 303, 3) := by decide +kernel
theorem zd183_17 : decode zxm183.2.1 17 = .ok (.iconst 1, 1) := by decide +kernel
theorem zd183_18 : decode zxm183.2.1 18 = .ok (.if_icmp .gt 26, 3) := by decide +kernel
theorem zd183_21 : decode zxm183.2.1 21 = .ok (.iload_n 2, 1) := by decide +kernel
theorem zd183_22 : decode zxm183.2.1 22 = .ok (.iload_n 1, 1) := by decide +kernel
theorem zd183_23 : decode zxm183.2.1 23 = .ok (.iconst 1, 1) := by decide +kernel
theorem zd183_24 : decode zxm183.2.1 24 = .ok (.isub, 1) := by decide +kernel
theorem zd183_25 : decode zxm183.2.1 25 = .ok (.if_icmp .ge 21, 3) := by decide +kernel
theorem zd183_28 : decode zxm183.2.1 28 = .ok (.aload_n 0, 1) := by decide +kernel
theorem zd183_29 : decode zxm183.2.1 29 = .ok (.getfield 39, 3) := by decide +kernel
theorem zd183_32 : decode zxm183.2.1 32 = .ok (.iconst 2, 1) := by decide +kernel
theorem zd183_33 : decode zxm183.2.1 33 = .ok (.iload_n 2, 1) := by decide +kernel
theorem zd183_34 : decode zxm183.2.1 34 = .ok (.imul, 1) := by decide +kernel
theorem zd183_35 : decode zxm183.2.1 35 = .ok (.iconst 1, 1) := by decide +kernel
theorem zd183_36 : decode zxm183.2.1 36 = .ok (.iadd, 1) := by decide +kernel
theorem zd183_37 : decode zxm183.2.1 37 = .ok (.invokevirtual 303, 3) := by decide +kernel
theorem zd183_40 : decode zxm183.2.1 40 = .ok (.iconst 4, 1) := by decide +kernel
theorem zd183_41 : decode zxm183.2.1 41 = .ok (.if_icmp .le 5, 3) := by decide +kernel
theorem zd183_44 : decode zxm183.2.1 44 = .ok (.iconst 0, 1) := by decide +kernel
theorem zd183_45 : decode zxm183.2.1 45 = .ok (.ireturn, 1) := by decide +kernel
theorem zd183_46 : decode zxm183.2.1 46 = .ok (.iinc 2 1, 3) := by decide +kernel
theorem zd183_49 : decode zxm183.2.1 49 = .ok (.goto (-47), 3) := by decide +kernel
theorem zd183_52 : decode zxm183.2.1 52 = .ok (.iconst 1, 1) := by decide +kernel
theorem zd183_53 : decode zxm183.2.1 53 = .ok (.ireturn, 1) := by decide +kernel
theorem zt_X_isLogBytes {x1 : Int} {g0 : (Int → Int)} {o : Int} (h : zf_X_isLogBytes x1 g0 = some o) : zv_Fn z_TB z_cl z_KX zy_X_isLogBytes zxm183 (1, 60) [.inr 0, .inl x1] [] [g0] (some o) [] [g0] := zv_meth (K := (z_KF0, z_KC0, z_KL0, z_KT0, [], [], [], none)) (FT := z_FT) (MT := z_MT) (n := 2) zxp183 (z_ks0 _ (fun _ h => List.mem_cons_of_mem _ h) _ _ _ _ (fun j r h _ => by cases h)) (fun _ _ => zs_KX_p) zyw_X_isLogBytes (fun va F G h => by obtain ⟨rfl, _⟩ := h; rfl) (fun va F G h => by obtain ⟨rfl, _⟩ := h; rfl) rfl fun good va F G hB hret hvret hP => by
  obtain ⟨rfl, rfl, rfl⟩ := hP
  have l0 : ∀ (n : Nat) (x1 : Int) (x2 : Int) (q : ((Unit) ⊕ (Int))), zf_X_isLogBytes_l0 x1 g0 n x2 = some q → (Sum.elim (fun e : Unit => good 52 [.inr 1000, .inr 1000, .inr 1000] [] [] [g0]) (fun w : Int => w = o) q) → good 2 [.inr 0, .inl x1, .inl x2] [] [] [g0] := by
    intro n
    induction n with
    | zero => intro x1 x2 q h; exact absurd (show none = some q from h) (fun h => by cases h)
    | succ n ih =>
      intro x1 x2 q h hK
      replace h : zf_X_isLogBytes_l0_b x1 g0 (zf_X_isLogBytes_l0 x1 g0 n) x2 = some q := h
      unfold zf_X_isLogBytes_l0_b at h
      refine zv_ild hB zd183_2 rfl rfl ?_
      refine zv_ild hB zd183_3 rfl rfl ?_
      refine zv_cge hB zd183_4 rfl (fun hc1 => ?_) (fun hc1 => ?_)
      · rw [if_neg (Int.not_lt.mpr hc1)] at h
        have hq := Option.some.inj h
        subst hq
        refine zv_wk hB (L' := [.inr 1000, .inr 1000, .inr 1000]) (F' := []) ⟨fun (h : zv_is (.inr 1000)) => (Nat.lt_irrefl 1000 h).elim, fun (h : zv_is (.inr 1000)) => (Nat.lt_irrefl 1000 h).elim, fun (h : zv_is (.inr 1000)) => (Nat.lt_irrefl 1000 h).elim, trivial⟩ trivial ?_
        exact hK
      · rw [if_pos hc1] at h
        refine zv_ald hB zd183_7 rfl rfl rfl ?_
        refine zv_getr hB zd183_8 rfl ?_
        refine zv_con hB zd183_11 rfl ?_
        refine zv_ild hB zd183_12 rfl rfl ?_
        refine zv_mulw hB zd183_13 ?_
        obtain ⟨r2, hr2, h⟩ := zi_bind h
        refine zv_cv hB (zv_emq (va2 := [.inr 1, .inl (zi_w (2 * x2))]) (F := []) (F' := []) (G := [g0]) (G' := [g0]) (ρ := [1, 2]) (φ := []) (ψ := [0]) [] [some 0] zyw_Tape_byteAt zyw_X_isLogBytes zye_X_isLogBytes (by decide +kernel) (zt_Tape_byteAt hr2) trivial ⟨rfl, trivial⟩ rfl rfl rfl rfl rfl rfl rfl) zd183_14 zxt138 rfl (by decide) (by decide) rfl ?_
        refine zv_con hB zd183_17 rfl ?_
        refine zv_cgt hB zd183_18 rfl (fun hc3 => ?_) (fun hc3 => ?_)
        · rw [if_pos hc3] at h
          refine zv_con hB zd183_44 rfl ?_
          have hw : 0 = o := zi_rk (Option.some.inj h) hK
          subst hw
          exact hret _ _ _ _ _ zd183_45 (by constructor <;> decide) ⟨rfl, rfl, rfl⟩
        · rw [if_neg (Int.not_lt.mpr hc3)] at h
          refine zv_ild hB zd183_21 rfl rfl ?_
          refine zv_ild hB zd183_22 rfl rfl ?_
          refine zv_con hB zd183_23 rfl ?_
          refine zv_subw hB zd183_24 ?_
          refine zv_cge hB zd183_25 rfl (fun hc4 => ?_) (fun hc4 => ?_)
          · rw [if_neg (Int.not_lt.mpr hc4)] at h
            refine zv_iincw hB zd183_46 rfl rfl ?_
            refine zv_goto hB zd183_49 rfl ?_
            exact ih _ _ q h hK
          · rw [if_pos hc4] at h
            refine zv_ald hB zd183_28 rfl rfl rfl ?_
            refine zv_getr hB zd183_29 rfl ?_
            refine zv_con hB zd183_32 rfl ?_
            refine zv_ild hB zd183_33 rfl rfl ?_
            refine zv_mulw hB zd183_34 ?_
            refine zv_con hB zd183_35 rfl ?_
            refine zv_addw hB zd183_36 ?_
            obtain ⟨r5, hr5, h⟩ := zi_bind h
            refine zv_cv hB (zv_emq (va2 := [.inr 1, .inl (zi_w ((zi_w (2 * x2)) + 1))]) (F := []) (F' := []) (G := [g0]) (G' := [g0]) (ρ := [1, 2]) (φ := []) (ψ := [0]) [] [some 0] zyw_Tape_byteAt zyw_X_isLogBytes zye_X_isLogBytes (by decide +kernel) (zt_Tape_byteAt hr5) trivial ⟨rfl, trivial⟩ rfl rfl rfl rfl rfl rfl rfl) zd183_37 zxt138 rfl (by decide) (by decide) rfl ?_
            refine zv_con hB zd183_40 rfl ?_
            refine zv_cle hB zd183_41 rfl (fun hc6 => ?_) (fun hc6 => ?_)
            · rw [if_neg (Int.not_lt.mpr hc6)] at h
              refine zv_iincw hB zd183_46 rfl rfl ?_
              refine zv_goto hB zd183_49 rfl ?_
              exact ih _ _ q h hK
            · rw [if_pos hc6] at h
              refine zv_con hB zd183_44 rfl ?_
              have hw : 0 = o := zi_rk (Option.some.inj h) hK
              subst hw
              exact hret _ _ _ _ _ zd183_45 (by constructor <;> decide) ⟨rfl, rfl, rfl⟩
  unfold zf_X_isLogBytes at h
  refine zv_con hB zd183_0 rfl ?_
  refine zv_ist hB zd183_1 rfl rfl rfl ?_
  obtain ⟨q7, hq7, h⟩ := zi_bind h
  refine l0 _ _ _ q7 hq7 ?_
  rcases q7 with e8 | w9
  · replace h := zi_sl h
    show good 52 [.inr 1000, .inr 1000, .inr 1000] [] [] [g0]
    refine zv_con hB zd183_52 rfl ?_
    have hw := Option.some.inj h
    subst hw
    exact hret _ _ _ _ _ zd183_53 (by constructor <;> decide) ⟨rfl, rfl, rfl⟩
  · exact Option.some.inj h
/-! X_moveSpots (I)V -/
-- names: 0 StarTales('arg', 0), 1 (0, 288)(0, 0, 18), 2 Sea(0, 0, 3), 3 (0, 12)(2, 2, 0)
-- fields: ; arrays: g0 = 1, g1 = 3; out: [('g', 0)]
abbrev zy_X_moveSpots : zNL := (4, [(0, 0), (2, 2)], [], [(0, 0, 18, 1), (0, 0, 3, 2), (2, 2, 0, 3)], [(1, 0, 288, 0), (3, 0, 12, 1)])
theorem zyw_X_moveSpots : zv_wf zy_X_moveSpots = true := by decide +kernel
theorem zye_X_moveSpots : zv_ek2 zy_X_moveSpots = true := by decide +kernel
def zf_X_moveSpots_l0_b (x1 : Int) (g1 : (Int → Int)) (rec : Int → (Int → Int) → Option ((Int → Int))) (x2 : Int) (g0 : (Int → Int)) : Option ((Int → Int)) := if x2 < 288 then (cond (zi_ix x2 288) (if (g0 x2) = (-1) then (rec (zi_w (x2 + 1)) g0) else ((zf_Sea_goFrom (g0 x2) x1 g1).bind fun r4 => (rec (zi_w (x2 + 1)) (zv_up g0 x2 r4)))) none) else (some g0)
def zf_X_moveSpots_l0 (x1 : Int) (g1 : (Int → Int)) : Nat → Int → (Int → Int) → Option ((Int → Int))
  | 0, _, _ => none
  | n + 1, x2, g0 => zf_X_moveSpots_l0_b x1 g1 (zf_X_moveSpots_l0 x1 g1 n) x2 g0
def zf_X_moveSpots (x1 : Int) (g0 : (Int → Int)) (g1 : (Int → Int)) : Option ((Int → Int)) := (zf_X_moveSpots_l0 x1 g1 zi_fu 0 g0).bind fun q5 => (some q5)
theorem zd184_0 : decode zxm184.2.1 0 = .ok (.iconst 0, 1) := by decide +kernel
theorem zd184_1 : decode zxm184.2.1 1 = .ok (.istore_n 2, 1) := by decide +kernel
theorem zd184_2 : decode zxm184.2.1 2 = .ok (.iload_n 2, 1) := by decide +kernel
theorem zd184_3 : decode zxm184.2.1 3 = .ok (.sipush 288, 3) := by decide +kernel
theorem zd184_6 : decode zxm184.2.1 6 = .ok (.if_icmp .ge 39, 3) := by decide +kernel
theorem zd184_9 : decode zxm184.2.1 9 = .ok (.aload_n 0, 1) := by decide +kernel
theorem zd184_10 : decode zxm184.2.1 10 = .ok (.getfield 123, 3) := by decide +kernel
theorem zd184_13 : decode zxm184.2.1 13 = .ok (.iload_n 2, 1) := by decide +kernel
theorem zd184_14 : decode zxm184.2.1 14 = .ok (.iaload, 1) := by decide +kernel
theorem zd184_15 : decode zxm184.2.1 15 = .ok (.iconst (-1), 1) := by decide +kernel
theorem zd184_16 : decode zxm184.2.1 16 = .ok (.if_icmp .eq 23, 3) := by decide +kernel
theorem zd184_19 : decode zxm184.2.1 19 = .ok (.aload_n 0, 1) := by decide +kernel
theorem zd184_20 : decode zxm184.2.1 20 = .ok (.getfield 123, 3) := by decide +kernel
theorem zd184_23 : decode zxm184.2.1 23 = .ok (.iload_n 2, 1) := by decide +kernel
theorem zd184_24 : decode zxm184.2.1 24 = .ok (.aload_n 0, 1) := by decide +kernel
theorem zd184_25 : decode zxm184.2.1 25 = .ok (.getfield 25, 3) := by decide +kernel
theorem zd184_28 : decode zxm184.2.1 28 = .ok (.aload_n 0, 1) := by decide +kernel
theorem zd184_29 : decode zxm184.2.1 29 = .ok (.getfield 123, 3) := by decide +kernel
theorem zd184_32 : decode zxm184.2.1 32 = .ok (.iload_n 2, 1) := by decide +kernel
theorem zd184_33 : decode zxm184.2.1 33 = .ok (.iaload, 1) := by decide +kernel
theorem zd184_34 : decode zxm184.2.1 34 = .ok (.iload_n 1, 1) := by decide +kernel
theorem zd184_35 : decode zxm184.2.1 35 = .ok (.invokevirtual 432, 3) := by decide +kernel
theorem zd184_38 : decode zxm184.2.1 38 = .ok (.iastore, 1) := by decide +kernel
theorem zd184_39 : decode zxm184.2.1 39 = .ok (.iinc 2 1, 3) := by decide +kernel
theorem zd184_42 : decode zxm184.2.1 42 = .ok (.goto (-40), 3) := by decide +kernel
theorem zd184_45 : decode zxm184.2.1 45 = .ok (.return_, 1) := by decide +kernel
theorem zt_X_moveSpots {x1 : Int} {g0 : (Int → Int)} {g1 : (Int → Int)} {o : (Int → Int)} (h : zf_X_moveSpots x1 g0 g1 = some o) : zv_Fn z_TB z_cl z_KX zy_X_moveSpots zxm184 (3, 180) [.inr 0, .inl x1] [] [g0, g1] none [] [o, g1] := zv_meth (K := (z_KF0, z_KC0, z_KL0, z_KT0, [], [], [], none)) (FT := z_FT) (MT := z_MT) (n := 2) zxp184 (z_ks0 _ (fun _ h => List.mem_cons_of_mem _ h) _ _ _ _ (fun j r h _ => by cases h)) (fun _ _ => zs_KX_p) zyw_X_moveSpots (fun va F G h => by obtain ⟨rfl, _⟩ := h; rfl) (fun va F G h => by obtain ⟨rfl, _⟩ := h; rfl) rfl fun good va F G hB hret hvret hP => by
  obtain ⟨rfl, rfl, rfl⟩ := hP
  have l0 : ∀ (n : Nat) (x1 : Int) (x2 : Int) (g0 : (Int → Int)) (q : (Int → Int)), zf_X_moveSpots_l0 x1 g1 n x2 g0 = some q → (good 45 [.inr 1000, .inr 1000, .inr 1000] [] [] [q, g1]) → good 2 [.inr 0, .inl x1, .inl x2] [] [] [g0, g1] := by
    intro n
    induction n with
    | zero => intro x1 x2 g0 q h; exact absurd (show none = some q from h) (fun h => by cases h)
    | succ n ih =>
      intro x1 x2 g0 q h hK
      replace h : zf_X_moveSpots_l0_b x1 g1 (zf_X_moveSpots_l0 x1 g1 n) x2 g0 = some q := h
      unfold zf_X_moveSpots_l0_b at h
      refine zv_ild hB zd184_2 rfl rfl ?_
      refine zv_con hB zd184_3 rfl ?_
      refine zv_cge hB zd184_6 rfl (fun hc1 => ?_) (fun hc1 => ?_)
      · rw [if_neg (Int.not_lt.mpr hc1)] at h
        have hq := Option.some.inj h
        subst hq
        refine zv_wk hB (L' := [.inr 1000, .inr 1000, .inr 1000]) (F' := []) ⟨fun (h : zv_is (.inr 1000)) => (Nat.lt_irrefl 1000 h).elim, fun (h : zv_is (.inr 1000)) => (Nat.lt_irrefl 1000 h).elim, fun (h : zv_is (.inr 1000)) => (Nat.lt_irrefl 1000 h).elim, trivial⟩ trivial ?_
        exact hK
      · rw [if_pos hc1] at h
        refine zv_ald hB zd184_9 rfl rfl rfl ?_
        refine zv_getr hB zd184_10 rfl ?_
        refine zv_ild hB zd184_13 rfl rfl ?_
        obtain ⟨c2, h⟩ := zi_if h
        refine zv_iald hB zd184_14 rfl rfl (zi_ix_ok c2).1 (zi_ix_ok c2).2 (fun _ _ => ?_)
        refine zv_con hB zd184_15 rfl ?_
        refine zv_ceq hB zd184_16 rfl (fun hc3 => ?_) (fun hc3 => ?_)
        · rw [if_pos hc3] at h
          refine zv_iincw hB zd184_39 rfl rfl ?_
          refine zv_goto hB zd184_42 rfl ?_
          exact ih _ _ _ q h hK
        · rw [if_neg hc3] at h
          refine zv_ald hB zd184_19 rfl rfl rfl ?_
          refine zv_getr hB zd184_20 rfl ?_
          refine zv_ild hB zd184_23 rfl rfl ?_
          refine zv_ald hB zd184_24 rfl rfl rfl ?_
          refine zv_getr hB zd184_25 rfl ?_
          refine zv_ald hB zd184_28 rfl rfl rfl ?_
          refine zv_getr hB zd184_29 rfl ?_
          refine zv_ild hB zd184_32 rfl rfl ?_
          refine zv_iald hB zd184_33 rfl rfl (zi_ix_ok c2).1 (zi_ix_ok c2).2 (fun _ _ => ?_)
          refine zv_ild hB zd184_34 rfl rfl ?_
          obtain ⟨r4, hr4, h⟩ := zi_bind h
          refine zv_cv hB (zv_emq (va2 := [.inr 2, .inl (g0 x2), .inl x1]) (F := []) (F' := []) (G := [g0, g1]) (G' := [g0, g1]) (ρ := [2, 3]) (φ := []) (ψ := [1]) [] [none, some 0] zyw_Sea_goFrom zyw_X_moveSpots zye_X_moveSpots (by decide +kernel) (zt_Sea_goFrom hr4) trivial ⟨rfl, trivial⟩ rfl rfl rfl rfl rfl rfl rfl) zd184_35 zxt154 rfl (by decide) (by decide) rfl ?_
          refine zv_iast hB zd184_38 rfl rfl (zi_ix_ok c2).1 (zi_ix_ok c2).2 ?_
          refine zv_iincw hB zd184_39 rfl rfl ?_
          refine zv_goto hB zd184_42 rfl ?_
          exact ih _ _ _ q h hK
  unfold zf_X_moveSpots at h
  refine zv_con hB zd184_0 rfl ?_
  refine zv_ist hB zd184_1 rfl rfl rfl ?_
  obtain ⟨q5, hq5, h⟩ := zi_bind h
  refine l0 _ _ _ _ q5 hq5 ?_
  show good 45 [.inr 1000, .inr 1000, .inr 1000] [] [] [q5, g1]
  have hw := Option.some.inj h
  subst hw
  exact hvret _ _ _ _ zd184_45 trivial ⟨rfl, rfl, rfl⟩
/-! X_firstSpot ()I -/
-- names: 0 StarTales('arg', 0), 1 (0, 288)(0, 0, 18)
-- fields: ; arrays: g0 = 1; out: [('ret', None)]
abbrev zy_X_firstSpot : zNL := (2, [(0, 0)], [], [(0, 0, 18, 1)], [(1, 0, 288, 0)])
theorem zyw_X_firstSpot : zv_wf zy_X_firstSpot = true := by decide +kernel
theorem zye_X_firstSpot : zv_ek2 zy_X_firstSpot = true := by decide +kernel
def zf_X_firstSpot_l0_b (g0 : (Int → Int)) (rec : Int → Option (((Unit) ⊕ (Int)))) (x1 : Int) : Option (((Unit) ⊕ (Int))) := if x1 < 288 then (cond (zi_ix x1 288) (if (g0 x1) = (-1) then (rec (zi_w (x1 + 1))) else (some (.inr x1))) none) else (some (.inl ()))
def zf_X_firstSpot_l0 (g0 : (Int → Int)) : Nat → Int → Option (((Unit) ⊕ (Int)))
  | 0, _ => none
  | n + 1, x1 => zf_X_firstSpot_l0_b g0 (zf_X_firstSpot_l0 g0 n) x1
def zf_X_firstSpot (g0 : (Int → Int)) : Option (Int) := (zf_X_firstSpot_l0 g0 zi_fu 0).bind fun q4 => Sum.elim (fun e5 => (some (-2))) (fun w6 => some w6) q4
theorem zd186_0 : decode zxm186.2.1 0 = .ok (.iconst 0, 1) := by decide +kernel
theorem zd186_1 : decode zxm186.2.1 1 = .ok (.istore_n 1, 1) := by decide +kernel
theorem zd186_2 : decode zxm186.2.1 2 = .ok (.iload_n 1, 1) := by decide +kernel
theorem zd186_3 : decode zxm186.2.1 3 = .ok (.sipush 288, 3) := by decide +kernel
theorem zd186_6 : decode zxm186.2.1 6 = .ok (.if_icmp .ge 21, 3) := by decide +kernel
theorem zd186_9 : decode zxm186.2.1 9 = .ok (.aload_n 0, 1) := by decide +kernel
theorem zd186_10 : decode zxm186.2.1 10 = .ok (.getfield 123, 3) := by decide +kernel
theorem zd186_13 : decode zxm186.2.1 13 = .ok (.iload_n 1, 1) := by decide +kernel
theorem zd186_14 : decode zxm186.2.1 14 = .ok (.iaload, 1) := by decide +kernel
theorem zd186_15 : decode zxm186.2.1 15 = .ok (.iconst (-1), 1) := by decide +kernel
theorem zd186_16 : decode zxm186.2.1 16 = .ok (.if_icmp .eq 5, 3) := by decide +kernel
theorem zd186_19 : decode zxm186.2.1 19 = .ok (.iload_n 1, 1) := by decide +kernel
theorem zd186_20 : decode zxm186.2.1 20 = .ok (.ireturn, 1) := by decide +kernel
theorem zd186_21 : decode zxm186.2.1 21 = .ok (.iinc 1 1, 3) := by decide +kernel
theorem zd186_24 : decode zxm186.2.1 24 = .ok (.goto (-22), 3) := by decide +kernel
theorem zd186_27 : decode zxm186.2.1 27 = .ok (.bipush (-2), 2) := by decide +kernel
theorem zd186_29 : decode zxm186.2.1 29 = .ok (.ireturn, 1) := by decide +kernel
theorem zt_X_firstSpot {g0 : (Int → Int)} {o : Int} (h : zf_X_firstSpot g0 = some o) : zv_Fn z_TB z_cl z_KX zy_X_firstSpot zxm186 (0, 0) [.inr 0] [] [g0] (some o) [] [g0] := zv_meth (K := (z_KF0, z_KC0, z_KL0, z_KT0, [], [], [], none)) (FT := z_FT) (MT := z_MT) (n := 1) zxp186 (z_ks0 _ (fun _ h => List.mem_cons_of_mem _ h) _ _ _ _ (fun j r h _ => by cases h)) (fun _ _ => zs_KX_p) zyw_X_firstSpot (fun va F G h => by obtain ⟨rfl, _⟩ := h; rfl) (fun va F G h => by obtain ⟨rfl, _⟩ := h; rfl) rfl fun good va F G hB hret hvret hP => by
  obtain ⟨rfl, rfl, rfl⟩ := hP
  have l0 : ∀ (n : Nat) (x1 : Int) (q : ((Unit) ⊕ (Int))), zf_X_firstSpot_l0 g0 n x1 = some q → (Sum.elim (fun e : Unit => good 27 [.inr 1000, .inr 1000] [] [] [g0]) (fun w : Int => w = o) q) → good 2 [.inr 0, .inl x1] [] [] [g0] := by
    intro n
    induction n with
    | zero => intro x1 q h; exact absurd (show none = some q from h) (fun h => by cases h)
    | succ n ih =>
      intro x1 q h hK
      replace h : zf_X_firstSpot_l0_b g0 (zf_X_firstSpot_l0 g0 n) x1 = some q := h
      unfold zf_X_firstSpot_l0_b at h
      refine zv_ild hB zd186_2 rfl rfl ?_
      refine zv_con hB zd186_3 rfl ?_
      refine zv_cge hB zd186_6 rfl (fun hc1 => ?_) (fun hc1 => ?_)
      · rw [if_neg (Int.not_lt.mpr hc1)] at h
        have hq := Option.some.inj h
        subst hq
        refine zv_wk hB (L' := [.inr 1000, .inr 1000]) (F' := []) ⟨fun (h : zv_is (.inr 1000)) => (Nat.lt_irrefl 1000 h).elim, fun (h : zv_is (.inr 1000)) => (Nat.lt_irrefl 1000 h).elim, trivial⟩ trivial ?_
        exact hK
      · rw [if_pos hc1] at h
        refine zv_ald hB zd186_9 rfl rfl rfl ?_
        refine zv_getr hB zd186_10 rfl ?_
        refine zv_ild hB zd186_13 rfl rfl ?_
        obtain ⟨c2, h⟩ := zi_if h
        refine zv_iald hB zd186_14 rfl rfl (zi_ix_ok c2).1 (zi_ix_ok c2).2 (fun _ _ => ?_)
        refine zv_con hB zd186_15 rfl ?_
        refine zv_ceq hB zd186_16 rfl (fun hc3 => ?_) (fun hc3 => ?_)
        · rw [if_pos hc3] at h
          refine zv_iincw hB zd186_21 rfl rfl ?_
          refine zv_goto hB zd186_24 rfl ?_
          exact ih _ q h hK
        · rw [if_neg hc3] at h
          refine zv_ild hB zd186_19 rfl rfl ?_
          have hw : x1 = o := zi_rk (Option.some.inj h) hK
          subst hw
          exact hret _ _ _ _ _ zd186_20 (by trivial) ⟨rfl, rfl, rfl⟩
  unfold zf_X_firstSpot at h
  refine zv_con hB zd186_0 rfl ?_
  refine zv_ist hB zd186_1 rfl rfl rfl ?_
  obtain ⟨q4, hq4, h⟩ := zi_bind h
  refine l0 _ _ q4 hq4 ?_
  rcases q4 with e5 | w6
  · replace h := zi_sl h
    show good 27 [.inr 1000, .inr 1000] [] [] [g0]
    refine zv_con hB zd186_27 rfl ?_
    have hw := Option.some.inj h
    subst hw
    exact hret _ _ _ _ _ zd186_29 (by trivial) ⟨rfl, rfl, rfl⟩
  · exact Option.some.inj h
/-! X_countSpots ()I -/
-- names: 0 StarTales('arg', 0), 1 (0, 288)(0, 0, 18)
-- fields: ; arrays: g0 = 1; out: [('ret', None)]
abbrev zy_X_countSpots : zNL := (2, [(0, 0)], [], [(0, 0, 18, 1)], [(1, 0, 288, 0)])
theorem zyw_X_countSpots : zv_wf zy_X_countSpots = true := by decide +kernel
theorem zye_X_countSpots : zv_ek2 zy_X_countSpots = true := by decide +kernel
def zf_X_countSpots_l0_b (g0 : (Int → Int)) (rec : Int → Int → Option (Int)) (x1 : Int) (x2 : Int) : Option (Int) := if x2 < 288 then (cond (zi_ix x2 288) (if (g0 x2) = (-1) then (rec x1 (zi_w (x2 + 1))) else (rec (zi_w (x1 + 1)) (zi_w (x2 + 1)))) none) else (some x1)
def zf_X_countSpots_l0 (g0 : (Int → Int)) : Nat → Int → Int → Option (Int)
  | 0, _, _ => none
  | n + 1, x1, x2 => zf_X_countSpots_l0_b g0 (zf_X_countSpots_l0 g0 n) x1 x2
def zf_X_countSpots (g0 : (Int → Int)) : Option (Int) := (zf_X_countSpots_l0 g0 zi_fu 0 0).bind fun q4 => (some q4)
theorem zd185_0 : decode zxm185.2.1 0 = .ok (.iconst 0, 1) := by decide +kernel
theorem zd185_1 : decode zxm185.2.1 1 = .ok (.istore_n 1, 1) := by decide +kernel
theorem zd185_2 : decode zxm185.2.1 2 = .ok (.iconst 0, 1) := by decide +kernel
theorem zd185_3 : decode zxm185.2.1 3 = .ok (.istore_n 2, 1) := by decide +kernel
theorem zd185_4 : decode zxm185.2.1 4 = .ok (.iload_n 2, 1) := by decide +kernel
theorem zd185_5 : decode zxm185.2.1 5 = .ok (.sipush 288, 3) := by decide +kernel
theorem zd185_8 : decode zxm185.2.1 8 = .ok (.if_icmp .ge 22, 3) := by decide +kernel
theorem zd185_11 : decode zxm185.2.1 11 = .ok (.aload_n 0, 1) := by decide +kernel
theorem zd185_12 : decode zxm185.2.1 12 = .ok (.getfield 123, 3) := by decide +kernel
theorem zd185_15 : decode zxm185.2.1 15 = .ok (.iload_n 2, 1) := by decide +kernel
theorem zd185_16 : decode zxm185.2.1 16 = .ok (.iaload, 1) := by decide +kernel
theorem zd185_17 : decode zxm185.2.1 17 = .ok (.iconst (-1), 1) := by decide +kernel
theorem zd185_18 : decode zxm185.2.1 18 = .ok (.if_icmp .eq 6, 3) := by decide +kernel
theorem zd185_21 : decode zxm185.2.1 21 = .ok (.iinc 1 1, 3) := by decide +kernel
theorem zd185_24 : decode zxm185.2.1 24 = .ok (.iinc 2 1, 3) := by decide +kernel
theorem zd185_27 : decode zxm185.2.1 27 = .ok (.goto (-23), 3) := by decide +kernel
theorem zd185_30 : decode zxm185.2.1 30 = .ok (.iload_n 1, 1) := by decide +kernel
theorem zd185_31 : decode zxm185.2.1 31 = .ok (.ireturn, 1) := by decide +kernel
theorem zt_X_countSpots {g0 : (Int → Int)} {o : Int} (h : zf_X_countSpots g0 = some o) : zv_Fn z_TB z_cl z_KX zy_X_countSpots zxm185 (0, 0) [.inr 0] [] [g0] (some o) [] [g0] := zv_meth (K := (z_KF0, z_KC0, z_KL0, z_KT0, [], [], [], none)) (FT := z_FT) (MT := z_MT) (n := 1) zxp185 (z_ks0 _ (fun _ h => List.mem_cons_of_mem _ h) _ _ _ _ (fun j r h _ => by cases h)) (fun _ _ => zs_KX_p) zyw_X_countSpots (fun va F G h => by obtain ⟨rfl, _⟩ := h; rfl) (fun va F G h => by obtain ⟨rfl, _⟩ := h; rfl) rfl fun good va F G hB hret hvret hP => by
  obtain ⟨rfl, rfl, rfl⟩ := hP
  have l0 : ∀ (n : Nat) (x1 : Int) (x2 : Int) (q : Int), zf_X_countSpots_l0 g0 n x1 x2 = some q → (good 30 [.inr 1000, .inl q, .inr 1000] [] [] [g0]) → good 4 [.inr 0, .inl x1, .inl x2] [] [] [g0] := by
    intro n
    induction n with
    | zero => intro x1 x2 q h; exact absurd (show none = some q from h) (fun h => by cases h)
    | succ n ih =>
      intro x1 x2 q h hK
      replace h : zf_X_countSpots_l0_b g0 (zf_X_countSpots_l0 g0 n) x1 x2 = some q := h
      unfold zf_X_countSpots_l0_b at h
      refine zv_ild hB zd185_4 rfl rfl ?_
      refine zv_con hB zd185_5 rfl ?_
      refine zv_cge hB zd185_8 rfl (fun hc1 => ?_) (fun hc1 => ?_)
      · rw [if_neg (Int.not_lt.mpr hc1)] at h
        have hq := Option.some.inj h
        subst hq
        refine zv_wk hB (L' := [.inr 1000, .inl x1, .inr 1000]) (F' := []) ⟨fun (h : zv_is (.inr 1000)) => (Nat.lt_irrefl 1000 h).elim, fun _ => rfl, fun (h : zv_is (.inr 1000)) => (Nat.lt_irrefl 1000 h).elim, trivial⟩ trivial ?_
        exact hK
      · rw [if_pos hc1] at h
        refine zv_ald hB zd185_11 rfl rfl rfl ?_
        refine zv_getr hB zd185_12 rfl ?_
        refine zv_ild hB zd185_15 rfl rfl ?_
        obtain ⟨c2, h⟩ := zi_if h
        refine zv_iald hB zd185_16 rfl rfl (zi_ix_ok c2).1 (zi_ix_ok c2).2 (fun _ _ => ?_)
        refine zv_con hB zd185_17 rfl ?_
        refine zv_ceq hB zd185_18 rfl (fun hc3 => ?_) (fun hc3 => ?_)
        · rw [if_pos hc3] at h
          refine zv_iincw hB zd185_24 rfl rfl ?_
          refine zv_goto hB zd185_27 rfl ?_
          exact ih _ _ q h hK
        · rw [if_neg hc3] at h
          refine zv_iincw hB zd185_21 rfl rfl ?_
          refine zv_iincw hB zd185_24 rfl rfl ?_
          refine zv_goto hB zd185_27 rfl ?_
          exact ih _ _ q h hK
  unfold zf_X_countSpots at h
  refine zv_con hB zd185_0 rfl ?_
  refine zv_ist hB zd185_1 rfl rfl rfl ?_
  refine zv_con hB zd185_2 rfl ?_
  refine zv_ist hB zd185_3 rfl rfl rfl ?_
  obtain ⟨q4, hq4, h⟩ := zi_bind h
  refine l0 _ _ _ q4 hq4 ?_
  show good 30 [.inr 1000, .inl q4, .inr 1000] [] [] [g0]
  refine zv_ild hB zd185_30 rfl rfl ?_
  have hw := Option.some.inj h
  subst hw
  exact hret _ _ _ _ _ zd185_31 (by trivial) ⟨rfl, rfl, rfl⟩
end
