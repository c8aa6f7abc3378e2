/-! Methods as functions, and that they do what these do. -/
/-! Pilot_followSecond (LStarTales$View;LStarTales$Sea;III)V -/
-- names: 0 Pilot('arg', 0), 1 View('arg', 1), 2 Sea('arg', 2), 3 (0, 288)(0, 9, 11), 4 (0, 264)(0, 9, 6), 5 (0, 264)(0, 9, 8), 6 (0, 264)(0, 9, 5), 7 Law(1, 7, 1), 8 (0, 13)(7, 4, 12), 9 Sky(1, 7, 0), 10 (0, 24)(9, 1, 1), 11 (0, 24)(9, 1, 2), 12 (0, 24)(9, 1, 3), 13 (0, 14)(7, 4, 3), 14 (0, 14)(7, 4, 5), 15 (0, 14)(7, 4, 6), 16 (0, 200)(7, 4, 0), 17 (0, 40)(7, 4, 13), 18 (0, 200)(7, 4, 1), 19 (0, 12)(2, 2, 0), 20 (0, 264)(0, 9, 7), 21 (0, 24)(9, 1, 4), 22 (0, 24)(9, 1, 5), 23 (0, 24)(1, 7, 8)
-- fields: f0 = 0.best_, f1 = 0.legs_, f2 = 1.law_, f3 = 1.sky_, f4 = 1.x_, f5 = 1.y_, f6 = 9.hour_, f7 = 9.night_, f8 = 9.told_, f9 = 9.sightColumns_, f10 = 9.sightRows_, f11 = 9.clouds_, f12 = 7.tellsSeen_, f13 = 1.starsAsked_, f14 = 1.starsHold_, f15 = 7.clauses_, f16 = 7.answer_, f17 = 7.seenByPlace_; arrays: g0 = 3, g1 = 4, g2 = 5, g3 = 6, g4 = 8, g5 = 10, g6 = 11, g7 = 12, g8 = 13, g9 = 14, g10 = 15, g11 = 16, g12 = 17, g13 = 18, g14 = 19, g15 = 20, g16 = 21, g17 = 22, g18 = 23; out: [('f', 0), ('f', 4), ('f', 5), ('f', 6), ('f', 7), ('f', 13), ('f', 14), ('f', 16), ('g', 0), ('g', 2), ('g', 4), ('g', 5), ('g', 6), ('g', 12), ('g', 18)]
abbrev zy_Pilot_followSecond : zNL := (24, [(0, 9), (1, 7), (2, 2), (7, 4), (9, 1)], [(0, 9, 10, 0), (0, 9, 9, 1), (1, 7, 1, 2), (1, 7, 0, 3), (1, 7, 2, 4), (1, 7, 3, 5), (9, 1, 6, 6), (9, 1, 7, 7), (9, 1, 0, 8), (9, 1, 9, 9), (9, 1, 10, 10), (9, 1, 8, 11), (7, 4, 8, 12), (1, 7, 6, 13), (1, 7, 7, 14), (7, 4, 7, 15), (7, 4, 14, 16), (7, 4, 10, 17)], [(0, 9, 11, 3), (0, 9, 6, 4), (0, 9, 8, 5), (0, 9, 5, 6), (7, 4, 12, 8), (9, 1, 1, 10), (9, 1, 2, 11), (9, 1, 3, 12), (7, 4, 3, 13), (7, 4, 5, 14), (7, 4, 6, 15), (7, 4, 0, 16), (7, 4, 13, 17), (7, 4, 1, 18), (2, 2, 0, 19), (0, 9, 7, 20), (9, 1, 4, 21), (9, 1, 5, 22), (1, 7, 8, 23)], [(3, 0, 288, 0), (4, 0, 264, 1), (5, 0, 264, 2), (6, 0, 264, 3), (8, 0, 13, 4), (10, 0, 24, 5), (11, 0, 24, 6), (12, 0, 24, 7), (13, 0, 14, 8), (14, 0, 14, 9), (15, 0, 14, 10), (16, 0, 200, 11), (17, 0, 40, 12), (18, 0, 200, 13), (19, 0, 12, 14), (20, 0, 264, 15), (21, 0, 24, 16), (22, 0, 24, 17), (23, 0, 24, 18)])
theorem zyw_Pilot_followSecond : zv_wf zy_Pilot_followSecond = true := by decide +kernel
theorem zye_Pilot_followSecond : zv_ek2 zy_Pilot_followSecond = true := by decide +kernel
def zf_Pilot_followSecond_l1_b (x3 : Int) (x4 : Int) (x6 : Int) (f1 : Int) (f6 : Int) (f7 : Int) (f8 : Int) (f9 : Int) (f10 : Int) (f11 : Int) (f12 : Int) (f15 : Int) (f17 : Int) (g1 : (Int → Int)) (g3 : (Int → Int)) (g5 : (Int → Int)) (g6 : (Int → Int)) (g7 : (Int → Int)) (g8 : (Int → Int)) (g9 : (Int → Int)) (g10 : (Int → Int)) (g11 : (Int → Int)) (g13 : (Int → Int)) (g14 : (Int → Int)) (g15 : (Int → Int)) (rec : Int → Int → Int → Int → Int → Int → Int → (Int → Int) → (Int → Int) → (Int → Int) → (Int → Int) → Option (Int × Int × Int × Int × Int × Int × (Int → Int) × (Int → Int) × (Int → Int) × (Int → Int))) (x7 : Int) (f0 : Int) (f4 : Int) (f5 : Int) (f13 : Int) (f14 : Int) (f16 : Int) (g0 : (Int → Int)) (g2 : (Int → Int)) (g4 : (Int → Int)) (g12 : (Int → Int)) : Option (Int × Int × Int × Int × Int × Int × (Int → Int) × (Int → Int) × (Int → Int) × (Int → Int)) := if x7 < f1 then (cond (zi_ix x7 264) (if (g1 x7) < x6 then (if (g1 x7) = (zi_w (x6 - 1)) then (cond (zi_ix (g15 x7) 288) (if (g0 (g15 x7)) = (-1) then ((zf_Pilot_step (g15 x7) x3 f4 f5 f6 f7 f8 f9 f10 f11 f12 f13 f14 f15 f16 f17 g4 g5 g6 g7 g8 g9 g10 g11 g12 g13 g14).bind fun r22 => (if ((zv_up g2 x7 ((zv_up g0 (g15 x7) r22.1) (g15 x7))) x7) = x4 then (if f0 = (-1) then (rec (zi_w (x7 + 1)) (zi_w ((zi_w ((zi_w (x6 * 6912)) + (zi_w ((zi_w ((zi_w ((g3 x7) * 12)) + (g1 x7))) * 24)))) + x3)) r22.2.1 r22.2.2.1 r22.2.2.2.1 r22.2.2.2.2.1 r22.2.2.2.2.2.1 (zv_up g0 (g15 x7) r22.1) (zv_up g2 x7 ((zv_up g0 (g15 x7) r22.1) (g15 x7))) r22.2.2.2.2.2.2.1 r22.2.2.2.2.2.2.2) else ((zf_Math_min f0 (zi_w ((zi_w ((zi_w (x6 * 6912)) + (zi_w ((zi_w ((zi_w ((g3 x7) * 12)) + (g1 x7))) * 24)))) + x3))).bind fun r25 => (rec (zi_w (x7 + 1)) r25 r22.2.1 r22.2.2.1 r22.2.2.2.1 r22.2.2.2.2.1 r22.2.2.2.2.2.1 (zv_up g0 (g15 x7) r22.1) (zv_up g2 x7 ((zv_up g0 (g15 x7) r22.1) (g15 x7))) r22.2.2.2.2.2.2.1 r22.2.2.2.2.2.2.2))) else (rec (zi_w (x7 + 1)) f0 r22.2.1 r22.2.2.1 r22.2.2.2.1 r22.2.2.2.2.1 r22.2.2.2.2.2.1 (zv_up g0 (g15 x7) r22.1) (zv_up g2 x7 ((zv_up g0 (g15 x7) r22.1) (g15 x7))) r22.2.2.2.2.2.2.1 r22.2.2.2.2.2.2.2))) else (if ((zv_up g2 x7 (g0 (g15 x7))) x7) = x4 then (if f0 = (-1) then (rec (zi_w (x7 + 1)) (zi_w ((zi_w ((zi_w (x6 * 6912)) + (zi_w ((zi_w ((zi_w ((g3 x7) * 12)) + (g1 x7))) * 24)))) + x3)) f4 f5 f13 f14 f16 g0 (zv_up g2 x7 (g0 (g15 x7))) g4 g12) else ((zf_Math_min f0 (zi_w ((zi_w ((zi_w (x6 * 6912)) + (zi_w ((zi_w ((zi_w ((g3 x7) * 12)) + (g1 x7))) * 24)))) + x3))).bind fun r21 => (rec (zi_w (x7 + 1)) r21 f4 f5 f13 f14 f16 g0 (zv_up g2 x7 (g0 (g15 x7))) g4 g12))) else (rec (zi_w (x7 + 1)) f0 f4 f5 f13 f14 f16 g0 (zv_up g2 x7 (g0 (g15 x7))) g4 g12))) none) else (cond (zi_ix (g2 x7) 288) (if (g0 (g2 x7)) = (-1) then ((zf_Pilot_step (g2 x7) x3 f4 f5 f6 f7 f8 f9 f10 f11 f12 f13 f14 f15 f16 f17 g4 g5 g6 g7 g8 g9 g10 g11 g12 g13 g14).bind fun r13 => (if ((zv_up g2 x7 ((zv_up g0 (g2 x7) r13.1) (g2 x7))) x7) = x4 then (if f0 = (-1) then (rec (zi_w (x7 + 1)) (zi_w ((zi_w ((zi_w (x6 * 6912)) + (zi_w ((zi_w ((zi_w ((g3 x7) * 12)) + (g1 x7))) * 24)))) + x3)) r13.2.1 r13.2.2.1 r13.2.2.2.1 r13.2.2.2.2.1 r13.2.2.2.2.2.1 (zv_up g0 (g2 x7) r13.1) (zv_up g2 x7 ((zv_up g0 (g2 x7) r13.1) (g2 x7))) r13.2.2.2.2.2.2.1 r13.2.2.2.2.2.2.2) else ((zf_Math_min f0 (zi_w ((zi_w ((zi_w (x6 * 6912)) + (zi_w ((zi_w ((zi_w ((g3 x7) * 12)) + (g1 x7))) * 24)))) + x3))).bind fun r16 => (rec (zi_w (x7 + 1)) r16 r13.2.1 r13.2.2.1 r13.2.2.2.1 r13.2.2.2.2.1 r13.2.2.2.2.2.1 (zv_up g0 (g2 x7) r13.1) (zv_up g2 x7 ((zv_up g0 (g2 x7) r13.1) (g2 x7))) r13.2.2.2.2.2.2.1 r13.2.2.2.2.2.2.2))) else (rec (zi_w (x7 + 1)) f0 r13.2.1 r13.2.2.1 r13.2.2.2.1 r13.2.2.2.2.1 r13.2.2.2.2.2.1 (zv_up g0 (g2 x7) r13.1) (zv_up g2 x7 ((zv_up g0 (g2 x7) r13.1) (g2 x7))) r13.2.2.2.2.2.2.1 r13.2.2.2.2.2.2.2))) else (if ((zv_up g2 x7 (g0 (g2 x7))) x7) = x4 then (if f0 = (-1) then (rec (zi_w (x7 + 1)) (zi_w ((zi_w ((zi_w (x6 * 6912)) + (zi_w ((zi_w ((zi_w ((g3 x7) * 12)) + (g1 x7))) * 24)))) + x3)) f4 f5 f13 f14 f16 g0 (zv_up g2 x7 (g0 (g2 x7))) g4 g12) else ((zf_Math_min f0 (zi_w ((zi_w ((zi_w (x6 * 6912)) + (zi_w ((zi_w ((zi_w ((g3 x7) * 12)) + (g1 x7))) * 24)))) + x3))).bind fun r12 => (rec (zi_w (x7 + 1)) r12 f4 f5 f13 f14 f16 g0 (zv_up g2 x7 (g0 (g2 x7))) g4 g12))) else (rec (zi_w (x7 + 1)) f0 f4 f5 f13 f14 f16 g0 (zv_up g2 x7 (g0 (g2 x7))) g4 g12))) none)) else (some (f0, f4, f5, f13, f14, f16, g0, g2, g4, g12))) none) else (some (f0, f4, f5, f13, f14, f16, g0, g2, g4, g12))
def zf_Pilot_followSecond_l1 (x3 : Int) (x4 : Int) (x6 : Int) (f1 : Int) (f6 : Int) (f7 : Int) (f8 : Int) (f9 : Int) (f10 : Int) (f11 : Int) (f12 : Int) (f15 : Int) (f17 : Int) (g1 : (Int → Int)) (g3 : (Int → Int)) (g5 : (Int → Int)) (g6 : (Int → Int)) (g7 : (Int → Int)) (g8 : (Int → Int)) (g9 : (Int → Int)) (g10 : (Int → Int)) (g11 : (Int → Int)) (g13 : (Int → Int)) (g14 : (Int → Int)) (g15 : (Int → Int)) : Nat → Int → Int → Int → Int → Int → Int → Int → (Int → Int) → (Int → Int) → (Int → Int) → (Int → Int) → Option (Int × Int × Int × Int × Int × Int × (Int → Int) × (Int → Int) × (Int → Int) × (Int → Int))
  | 0, _, _, _, _, _, _, _, _, _, _, _ => none
  | n + 1, x7, f0, f4, f5, f13, f14, f16, g0, g2, g4, g12 => zf_Pilot_followSecond_l1_b x3 x4 x6 f1 f6 f7 f8 f9 f10 f11 f12 f15 f17 g1 g3 g5 g6 g7 g8 g9 g10 g11 g13 g14 g15 (zf_Pilot_followSecond_l1 x3 x4 x6 f1 f6 f7 f8 f9 f10 f11 f12 f15 f17 g1 g3 g5 g6 g7 g8 g9 g10 g11 g13 g14 g15 n) x7 f0 f4 f5 f13 f14 f16 g0 g2 g4 g12
def zf_Pilot_followSecond_l0_b (x3 : Int) (x4 : Int) (x5 : Int) (f1 : Int) (f8 : Int) (f9 : Int) (f10 : Int) (f11 : Int) (f12 : Int) (f15 : Int) (f17 : Int) (g1 : (Int → Int)) (g3 : (Int → Int)) (g7 : (Int → Int)) (g8 : (Int → Int)) (g9 : (Int → Int)) (g10 : (Int → Int)) (g11 : (Int → Int)) (g13 : (Int → Int)) (g14 : (Int → Int)) (g15 : (Int → Int)) (g16 : (Int → Int)) (g17 : (Int → Int)) (rec : Int → Int → Int → Int → Int → Int → Int → Int → Int → (Int → Int) → (Int → Int) → (Int → Int) → (Int → Int) → (Int → Int) → (Int → Int) → (Int → Int) → Option (Int × Int × Int × Int × Int × Int × Int × Int × (Int → Int) × (Int → Int) × (Int → Int) × (Int → Int) × (Int → Int) × (Int → Int) × (Int → Int))) (x6 : Int) (f0 : Int) (f4 : Int) (f5 : Int) (f6 : Int) (f7 : Int) (f13 : Int) (f14 : Int) (f16 : Int) (g0 : (Int → Int)) (g2 : (Int → Int)) (g4 : (Int → Int)) (g5 : (Int → Int)) (g6 : (Int → Int)) (g12 : (Int → Int)) (g18 : (Int → Int)) : Option (Int × Int × Int × Int × Int × Int × Int × Int × (Int → Int) × (Int → Int) × (Int → Int) × (Int → Int) × (Int → Int) × (Int → Int) × (Int → Int)) := if x5 < x6 then (some (f0, f4, f5, f6, f7, f13, f14, f16, g0, g2, g4, g5, g6, g12, g18)) else (if f0 = (-1) then ((zf_Arrays_fill_288 (-1) g0).bind fun r3 => ((zf_Pilot_followSecond_l1 x3 x4 x6 f1 f6 f7 f8 f9 f10 f11 f12 f15 f17 g1 g3 g5 g6 g7 g8 g9 g10 g11 g13 g14 g15 zi_fu 0 f0 f4 f5 f13 f14 f16 r3 g2 g4 g12).bind fun q26 => ((zf_Pilot_turnOnward f6 f7 q26.2.2.2.1 g5 g16 g6 g17 g18).bind fun r27 => (rec (zi_w (x6 + 1)) q26.1 q26.2.1 q26.2.2.1 r27.1 r27.2.1 r27.2.2.1 q26.2.2.2.2.1 q26.2.2.2.2.2.1 q26.2.2.2.2.2.2.1 q26.2.2.2.2.2.2.2.1 q26.2.2.2.2.2.2.2.2.1 r27.2.2.2.1 r27.2.2.2.2.1 q26.2.2.2.2.2.2.2.2.2 r27.2.2.2.2.2)))) else (if (zi_div f0 6912) < x6 then (some (f0, f4, f5, f6, f7, f13, f14, f16, g0, g2, g4, g5, g6, g12, g18)) else ((zf_Arrays_fill_288 (-1) g0).bind fun r29 => ((zf_Pilot_followSecond_l1 x3 x4 x6 f1 f6 f7 f8 f9 f10 f11 f12 f15 f17 g1 g3 g5 g6 g7 g8 g9 g10 g11 g13 g14 g15 zi_fu 0 f0 f4 f5 f13 f14 f16 r29 g2 g4 g12).bind fun q30 => ((zf_Pilot_turnOnward f6 f7 q30.2.2.2.1 g5 g16 g6 g17 g18).bind fun r31 => (rec (zi_w (x6 + 1)) q30.1 q30.2.1 q30.2.2.1 r31.1 r31.2.1 r31.2.2.1 q30.2.2.2.2.1 q30.2.2.2.2.2.1 q30.2.2.2.2.2.2.1 q30.2.2.2.2.2.2.2.1 q30.2.2.2.2.2.2.2.2.1 r31.2.2.2.1 r31.2.2.2.2.1 q30.2.2.2.2.2.2.2.2.2 r31.2.2.2.2.2))))))
def zf_Pilot_followSecond_l0 (x3 : Int) (x4 : Int) (x5 : Int) (f1 : Int) (f8 : Int) (f9 : Int) (f10 : Int) (f11 : Int) (f12 : Int) (f15 : Int) (f17 : Int) (g1 : (Int → Int)) (g3 : (Int → Int)) (g7 : (Int → Int)) (g8 : (Int → Int)) (g9 : (Int → Int)) (g10 : (Int → Int)) (g11 : (Int → Int)) (g13 : (Int → Int)) (g14 : (Int → Int)) (g15 : (Int → Int)) (g16 : (Int → Int)) (g17 : (Int → Int)) : Nat → Int → Int → Int → Int → Int → Int → Int → Int → Int → (Int → Int) → (Int → Int) → (Int → Int) → (Int → Int) → (Int → Int) → (Int → Int) → (Int → Int) → Option (Int × Int × Int × Int × Int × Int × Int × Int × (Int → Int) × (Int → Int) × (Int → Int) × (Int → Int) × (Int → Int) × (Int → Int) × (Int → Int))
  | 0, _, _, _, _, _, _, _, _, _, _, _, _, _, _, _, _ => none
  | n + 1, x6, f0, f4, f5, f6, f7, f13, f14, f16, g0, g2, g4, g5, g6, g12, g18 => zf_Pilot_followSecond_l0_b x3 x4 x5 f1 f8 f9 f10 f11 f12 f15 f17 g1 g3 g7 g8 g9 g10 g11 g13 g14 g15 g16 g17 (zf_Pilot_followSecond_l0 x3 x4 x5 f1 f8 f9 f10 f11 f12 f15 f17 g1 g3 g7 g8 g9 g10 g11 g13 g14 g15 g16 g17 n) x6 f0 f4 f5 f6 f7 f13 f14 f16 g0 g2 g4 g5 g6 g12 g18
def zf_Pilot_followSecond (x3 : Int) (x4 : Int) (x5 : Int) (f0 : Int) (f1 : Int) (f4 : Int) (f5 : Int) (f6 : Int) (f7 : Int) (f8 : Int) (f9 : Int) (f10 : Int) (f11 : Int) (f12 : Int) (f13 : Int) (f14 : Int) (f15 : Int) (f16 : Int) (f17 : Int) (g0 : (Int → Int)) (g1 : (Int → Int)) (g2 : (Int → Int)) (g3 : (Int → Int)) (g4 : (Int → Int)) (g5 : (Int → Int)) (g6 : (Int → Int)) (g7 : (Int → Int)) (g8 : (Int → Int)) (g9 : (Int → Int)) (g10 : (Int → Int)) (g11 : (Int → Int)) (g12 : (Int → Int)) (g13 : (Int → Int)) (g14 : (Int → Int)) (g15 : (Int → Int)) (g16 : (Int → Int)) (g17 : (Int → Int)) (g18 : (Int → Int)) : Option (Int × Int × Int × Int × Int × Int × Int × Int × (Int → Int) × (Int → Int) × (Int → Int) × (Int → Int) × (Int → Int) × (Int → Int) × (Int → Int)) := (zf_Pilot_followSecond_l0 x3 x4 x5 f1 f8 f9 f10 f11 f12 f15 f17 g1 g3 g7 g8 g9 g10 g11 g13 g14 g15 g16 g17 zi_fu 1 f0 f4 f5 f6 f7 f13 f14 f16 g0 g2 g4 g5 g6 g12 g18).bind fun q32 => (some (q32.1, q32.2.1, q32.2.2.1, q32.2.2.2.1, q32.2.2.2.2.1, q32.2.2.2.2.2.1, q32.2.2.2.2.2.2.1, q32.2.2.2.2.2.2.2.1, q32.2.2.2.2.2.2.2.2.1, q32.2.2.2.2.2.2.2.2.2.1, q32.2.2.2.2.2.2.2.2.2.2.1, q32.2.2.2.2.2.2.2.2.2.2.2.1, q32.2.2.2.2.2.2.2.2.2.2.2.2.1, q32.2.2.2.2.2.2.2.2.2.2.2.2.2.1, q32.2.2.2.2.2.2.2.2.2.2.2.2.2.2))
theorem zd174_0 : decode zxm174.2.1 0 = .ok (.iconst 1, 1) := by decide +kernel
theorem zd174_1 : decode zxm174.2.1 1 = .ok (.istore 6, 2) := by decide +kernel
theorem zd174_3 : decode zxm174.2.1 3 = .ok (.iload 6, 2) := by decide +kernel
theorem zd174_5 : decode zxm174.2.1 5 = .ok (.iload 5, 2) := by decide +kernel
theorem zd174_7 : decode zxm174.2.1 7 = .ok (.if_icmp .gt 217, 3) := by decide +kernel
theorem zd174_10 : decode zxm174.2.1 10 = .ok (.aload_n 0, 1) := by decide +kernel
theorem zd174_11 : decode zxm174.2.1 11 = .ok (.getfield 43, 3) := by decide +kernel
theorem zd174_14 : decode zxm174.2.1 14 = .ok (.iconst (-1), 1) := by decide +kernel
theorem zd174_15 : decode zxm174.2.1 15 = .ok (.if_icmp .eq 16, 3) := by decide +kernel
theorem zd174_18 : decode zxm174.2.1 18 = .ok (.iload 6, 2) := by decide +kernel
theorem zd174_20 : decode zxm174.2.1 20 = .ok (.aload_n 0, 1) := by decide +kernel
theorem zd174_21 : decode zxm174.2.1 21 = .ok (.getfield 43, 3) := by decide +kernel
theorem zd174_24 : decode zxm174.2.1 24 = .ok (.sipush 6912, 3) := by decide +kernel
theorem zd174_27 : decode zxm174.2.1 27 = .ok (.idiv, 1) := by decide +kernel
theorem zd174_28 : decode zxm174.2.1 28 = .ok (.if_icmp .gt 196, 3) := by decide +kernel
theorem zd174_31 : decode zxm174.2.1 31 = .ok (.aload_n 0, 1) := by decide +kernel
theorem zd174_32 : decode zxm174.2.1 32 = .ok (.getfield 46, 3) := by decide +kernel
theorem zd174_35 : decode zxm174.2.1 35 = .ok (.iconst (-1), 1) := by decide +kernel
theorem zd174_36 : decode zxm174.2.1 36 = .ok (.invokestatic 110, 3) := by decide +kernel
theorem zd174_39 : decode zxm174.2.1 39 = .ok (.iconst 0, 1) := by decide +kernel
theorem zd174_40 : decode zxm174.2.1 40 = .ok (.istore 7, 2) := by decide +kernel
theorem zd174_42 : decode zxm174.2.1 42 = .ok (.iload 7, 2) := by decide +kernel
theorem zd174_44 : decode zxm174.2.1 44 = .ok (.aload_n 0, 1) := by decide +kernel
theorem zd174_45 : decode zxm174.2.1 45 = .ok (.getfield 40, 3) := by decide +kernel
theorem zd174_48 : decode zxm174.2.1 48 = .ok (.if_icmp .ge 165, 3) := by decide +kernel
theorem zd174_51 : decode zxm174.2.1 51 = .ok (.aload_n 0, 1) := by decide +kernel
theorem zd174_52 : decode zxm174.2.1 52 = .ok (.getfield 31, 3) := by decide +kernel
theorem zd174_55 : decode zxm174.2.1 55 = .ok (.iload 7, 2) := by decide +kernel
theorem zd174_57 : decode zxm174.2.1 57 = .ok (.iaload, 1) := by decide +kernel
theorem zd174_58 : decode zxm174.2.1 58 = .ok (.iload 6, 2) := by decide +kernel
theorem zd174_60 : decode zxm174.2.1 60 = .ok (.if_icmp .ge 153, 3) := by decide +kernel
theorem zd174_63 : decode zxm174.2.1 63 = .ok (.aload_n 0, 1) := by decide +kernel
theorem zd174_64 : decode zxm174.2.1 64 = .ok (.getfield 31, 3) := by decide +kernel
theorem zd174_67 : decode zxm174.2.1 67 = .ok (.iload 7, 2) := by decide +kernel
theorem zd174_69 : decode zxm174.2.1 69 = .ok (.iaload, 1) := by decide +kernel
theorem zd174_70 : decode zxm174.2.1 70 = .ok (.iload 6, 2) := by decide +kernel
theorem zd174_72 : decode zxm174.2.1 72 = .ok (.iconst 1, 1) := by decide +kernel
theorem zd174_73 : decode zxm174.2.1 73 = .ok (.isub, 1) := by decide +kernel
theorem zd174_74 : decode zxm174.2.1 74 = .ok (.if_icmp .ne 13, 3) := by decide +kernel
theorem zd174_77 : decode zxm174.2.1 77 = .ok (.aload_n 0, 1) := by decide +kernel
theorem zd174_78 : decode zxm174.2.1 78 = .ok (.getfield 34, 3) := by decide +kernel
theorem zd174_81 : decode zxm174.2.1 81 = .ok (.iload 7, 2) := by decide +kernel
theorem zd174_83 : decode zxm174.2.1 83 = .ok (.iaload, 1) := by decide +kernel
theorem zd174_84 : decode zxm174.2.1 84 = .ok (.goto 10, 3) := by decide +kernel
theorem zd174_87 : decode zxm174.2.1 87 = .ok (.aload_n 0, 1) := by decide +kernel
theorem zd174_88 : decode zxm174.2.1 88 = .ok (.getfield 37, 3) := by decide +kernel
theorem zd174_91 : decode zxm174.2.1 91 = .ok (.iload 7, 2) := by decide +kernel
theorem zd174_93 : decode zxm174.2.1 93 = .ok (.iaload, 1) := by decide +kernel
theorem zd174_94 : decode zxm174.2.1 94 = .ok (.istore 8, 2) := by decide +kernel
theorem zd174_96 : decode zxm174.2.1 96 = .ok (.aload_n 0, 1) := by decide +kernel
theorem zd174_97 : decode zxm174.2.1 97 = .ok (.getfield 46, 3) := by decide +kernel
theorem zd174_100 : decode zxm174.2.1 100 = .ok (.iload 8, 2) := by decide +kernel
theorem zd174_102 : decode zxm174.2.1 102 = .ok (.iaload, 1) := by decide +kernel
theorem zd174_103 : decode zxm174.2.1 103 = .ok (.iconst (-1), 1) := by decide +kernel
theorem zd174_104 : decode zxm174.2.1 104 = .ok (.if_icmp .ne 19, 3) := by decide +kernel
theorem zd174_107 : decode zxm174.2.1 107 = .ok (.aload_n 0, 1) := by decide +kernel
theorem zd174_108 : decode zxm174.2.1 108 = .ok (.getfield 46, 3) := by decide +kernel
theorem zd174_111 : decode zxm174.2.1 111 = .ok (.iload 8, 2) := by decide +kernel
theorem zd174_113 : decode zxm174.2.1 113 = .ok (.aload_n 0, 1) := by decide +kernel
theorem zd174_114 : decode zxm174.2.1 114 = .ok (.aload_n 1, 1) := by decide +kernel
theorem zd174_115 : decode zxm174.2.1 115 = .ok (.aload_n 2, 1) := by decide +kernel
theorem zd174_116 : decode zxm174.2.1 116 = .ok (.iload 8, 2) := by decide +kernel
theorem zd174_118 : decode zxm174.2.1 118 = .ok (.iload_n 3, 1) := by decide +kernel
theorem zd174_119 : decode zxm174.2.1 119 = .ok (.invokevirtual 150, 3) := by decide +kernel
theorem zd174_122 : decode zxm174.2.1 122 = .ok (.iastore, 1) := by decide +kernel
theorem zd174_123 : decode zxm174.2.1 123 = .ok (.aload_n 0, 1) := by decide +kernel
theorem zd174_124 : decode zxm174.2.1 124 = .ok (.getfield 37, 3) := by decide +kernel
theorem zd174_127 : decode zxm174.2.1 127 = .ok (.iload 7, 2) := by decide +kernel
theorem zd174_129 : decode zxm174.2.1 129 = .ok (.aload_n 0, 1) := by decide +kernel
theorem zd174_130 : decode zxm174.2.1 130 = .ok (.getfield 46, 3) := by decide +kernel
theorem zd174_133 : decode zxm174.2.1 133 = .ok (.iload 8, 2) := by decide +kernel
theorem zd174_135 : decode zxm174.2.1 135 = .ok (.iaload, 1) := by decide +kernel
theorem zd174_136 : decode zxm174.2.1 136 = .ok (.iastore, 1) := by decide +kernel
theorem zd174_137 : decode zxm174.2.1 137 = .ok (.aload_n 0, 1) := by decide +kernel
theorem zd174_138 : decode zxm174.2.1 138 = .ok (.getfield 37, 3) := by decide +kernel
theorem zd174_141 : decode zxm174.2.1 141 = .ok (.iload 7, 2) := by decide +kernel
theorem zd174_143 : decode zxm174.2.1 143 = .ok (.iaload, 1) := by decide +kernel
theorem zd174_144 : decode zxm174.2.1 144 = .ok (.iload 4, 2) := by decide +kernel
theorem zd174_146 : decode zxm174.2.1 146 = .ok (.if_icmp .ne 61, 3) := by decide +kernel
theorem zd174_149 : decode zxm174.2.1 149 = .ok (.iload 6, 2) := by decide +kernel
theorem zd174_151 : decode zxm174.2.1 151 = .ok (.sipush 6912, 3) := by decide +kernel
theorem zd174_154 : decode zxm174.2.1 154 = .ok (.imul, 1) := by decide +kernel
theorem zd174_155 : decode zxm174.2.1 155 = .ok (.aload_n 0, 1) := by decide +kernel
theorem zd174_156 : decode zxm174.2.1 156 = .ok (.getfield 28, 3) := by decide +kernel
theorem zd174_159 : decode zxm174.2.1 159 = .ok (.iload 7, 2) := by decide +kernel
theorem zd174_161 : decode zxm174.2.1 161 = .ok (.iaload, 1) := by decide +kernel
theorem zd174_162 : decode zxm174.2.1 162 = .ok (.bipush 12, 2) := by decide +kernel
theorem zd174_164 : decode zxm174.2.1 164 = .ok (.imul, 1) := by decide +kernel
theorem zd174_165 : decode zxm174.2.1 165 = .ok (.aload_n 0, 1) := by decide +kernel
theorem zd174_166 : decode zxm174.2.1 166 = .ok (.getfield 31, 3) := by decide +kernel
theorem zd174_169 : decode zxm174.2.1 169 = .ok (.iload 7, 2) := by decide +kernel
theorem zd174_171 : decode zxm174.2.1 171 = .ok (.iaload, 1) := by decide +kernel
theorem zd174_172 : decode zxm174.2.1 172 = .ok (.iadd, 1) := by decide +kernel
theorem zd174_173 : decode zxm174.2.1 173 = .ok (.bipush 24, 2) := by decide +kernel
theorem zd174_175 : decode zxm174.2.1 175 = .ok (.imul, 1) := by decide +kernel
theorem zd174_176 : decode zxm174.2.1 176 = .ok (.iadd, 1) := by decide +kernel
theorem zd174_177 : decode zxm174.2.1 177 = .ok (.iload_n 3, 1) := by decide +kernel
theorem zd174_178 : decode zxm174.2.1 178 = .ok (.iadd, 1) := by decide +kernel
theorem zd174_179 : decode zxm174.2.1 179 = .ok (.istore 9, 2) := by decide +kernel
theorem zd174_181 : decode zxm174.2.1 181 = .ok (.aload_n 0, 1) := by decide +kernel
theorem zd174_182 : decode zxm174.2.1 182 = .ok (.aload_n 0, 1) := by decide +kernel
theorem zd174_183 : decode zxm174.2.1 183 = .ok (.getfield 43, 3) := by decide +kernel
theorem zd174_186 : decode zxm174.2.1 186 = .ok (.iconst (-1), 1) := by decide +kernel
theorem zd174_187 : decode zxm174.2.1 187 = .ok (.if_icmp .ne 8, 3) := by decide +kernel
theorem zd174_190 : decode zxm174.2.1 190 = .ok (.iload 9, 2) := by decide +kernel
theorem zd174_192 : decode zxm174.2.1 192 = .ok (.goto 12, 3) := by decide +kernel
theorem zd174_195 : decode zxm174.2.1 195 = .ok (.aload_n 0, 1) := by decide +kernel
theorem zd174_196 : decode zxm174.2.1 196 = .ok (.getfield 43, 3) := by decide +kernel
theorem zd174_199 : decode zxm174.2.1 199 = .ok (.iload 9, 2) := by decide +kernel
theorem zd174_201 : decode zxm174.2.1 201 = .ok (.invokestatic 90, 3) := by decide +kernel
theorem zd174_204 : decode zxm174.2.1 204 = .ok (.putfield 43, 3) := by decide +kernel
theorem zd174_207 : decode zxm174.2.1 207 = .ok (.iinc 7 1, 3) := by decide +kernel
theorem zd174_210 : decode zxm174.2.1 210 = .ok (.goto (-168), 3) := by decide +kernel
theorem zd174_213 : decode zxm174.2.1 213 = .ok (.aload_n 0, 1) := by decide +kernel
theorem zd174_214 : decode zxm174.2.1 214 = .ok (.aload_n 1, 1) := by decide +kernel
theorem zd174_215 : decode zxm174.2.1 215 = .ok (.invokevirtual 123, 3) := by decide +kernel
theorem zd174_218 : decode zxm174.2.1 218 = .ok (.iinc 6 1, 3) := by decide +kernel
theorem zd174_221 : decode zxm174.2.1 221 = .ok (.goto (-218), 3) := by decide +kernel
theorem zd174_224 : decode zxm174.2.1 224 = .ok (.return_, 1) := by decide +kernel
theorem zt_Pilot_followSecond {x3 : Int} {x4 : Int} {x5 : Int} {f0 : Int} {f1 : Int} {f4 : Int} {f5 : Int} {f6 : Int} {f7 : Int} {f8 : Int} {f9 : Int} {f10 : Int} {f11 : Int} {f12 : Int} {f13 : Int} {f14 : Int} {f15 : Int} {f16 : Int} {f17 : Int} {g0 : (Int → Int)} {g1 : (Int → Int)} {g2 : (Int → Int)} {g3 : (Int → Int)} {g4 : (Int → Int)} {g5 : (Int → Int)} {g6 : (Int → Int)} {g7 : (Int → Int)} {g8 : (Int → Int)} {g9 : (Int → Int)} {g10 : (Int → Int)} {g11 : (Int → Int)} {g12 : (Int → Int)} {g13 : (Int → Int)} {g14 : (Int → Int)} {g15 : (Int → Int)} {g16 : (Int → Int)} {g17 : (Int → Int)} {g18 : (Int → Int)} {o : Int × Int × Int × Int × Int × Int × Int × Int × (Int → Int) × (Int → Int) × (Int → Int) × (Int → Int) × (Int → Int) × (Int → Int) × (Int → Int)} (h : zf_Pilot_followSecond x3 x4 x5 f0 f1 f4 f5 f6 f7 f8 f9 f10 f11 f12 f13 f14 f15 f16 f17 g0 g1 g2 g3 g4 g5 g6 g7 g8 g9 g10 g11 g12 g13 g14 g15 g16 g17 g18 = some o) : zv_Fn z_TB z_cl z_KX zy_Pilot_followSecond zxm174 (5, 300) [.inr 0, .inr 1, .inr 2, .inl x3, .inl x4, .inl x5] [.inl f0, .inl f1, .inr 7, .inr 9, .inl f4, .inl f5, .inl f6, .inl f7, .inl f8, .inl f9, .inl f10, .inl f11, .inl f12, .inl f13, .inl f14, .inl f15, .inl f16, .inl f17] [g0, g1, g2, g3, g4, g5, g6, g7, g8, g9, g10, g11, g12, g13, g14, g15, g16, g17, g18] none [.inl o.1, .inl f1, .inr 7, .inr 9, .inl o.2.1, .inl o.2.2.1, .inl o.2.2.2.1, .inl o.2.2.2.2.1, .inl f8, .inl f9, .inl f10, .inl f11, .inl f12, .inl o.2.2.2.2.2.1, .inl o.2.2.2.2.2.2.1, .inl f15, .inl o.2.2.2.2.2.2.2.1, .inl f17] [o.2.2.2.2.2.2.2.2.1, g1, o.2.2.2.2.2.2.2.2.2.1, g3, o.2.2.2.2.2.2.2.2.2.2.1, o.2.2.2.2.2.2.2.2.2.2.2.1, o.2.2.2.2.2.2.2.2.2.2.2.2.1, g7, g8, g9, g10, g11, o.2.2.2.2.2.2.2.2.2.2.2.2.2.1, g13, g14, g15, g16, g17, o.2.2.2.2.2.2.2.2.2.2.2.2.2.2] := zv_meth (K := (z_KF6, z_KC6, z_KL6, z_KT6, [], [], [], none)) (FT := z_FT) (MT := z_MT) (n := 6) zxp174 (z_ks6 _ (fun _ h => List.mem_cons_of_mem _ h) _ _ _ _ (fun j r h _ => by cases h)) (fun _ _ => zs_KX_p) zyw_Pilot_followSecond (fun va F G h => by obtain ⟨rfl, _⟩ := h; rfl) (fun va F G h => by obtain ⟨rfl, _⟩ := h; rfl) rfl fun good va F G hB hret hvret hP => by
  obtain ⟨rfl, rfl, rfl⟩ := hP
  have l1 : ∀ (n : Nat) (x3 : Int) (x4 : Int) (x5 : Int) (x6 : Int) (x7 : Int) (f0 : Int) (f4 : Int) (f5 : Int) (f6 : Int) (f7 : Int) (f13 : Int) (f14 : Int) (f16 : Int) (g0 : (Int → Int)) (g2 : (Int → Int)) (g4 : (Int → Int)) (g5 : (Int → Int)) (g6 : (Int → Int)) (g12 : (Int → Int)) (g18 : (Int → Int)) (q : Int × Int × Int × Int × Int × Int × (Int → Int) × (Int → Int) × (Int → Int) × (Int → Int)), zf_Pilot_followSecond_l1 x3 x4 x6 f1 f6 f7 f8 f9 f10 f11 f12 f15 f17 g1 g3 g5 g6 g7 g8 g9 g10 g11 g13 g14 g15 n x7 f0 f4 f5 f13 f14 f16 g0 g2 g4 g12 = some q → (good 213 [.inr 0, .inr 1, .inr 2, .inl x3, .inl x4, .inl x5, .inl x6, .inr 1000, .inr 1000, .inr 1000] [] [.inl q.1, .inl f1, .inr 7, .inr 9, .inl q.2.1, .inl q.2.2.1, .inl f6, .inl f7, .inl f8, .inl f9, .inl f10, .inl f11, .inl f12, .inl q.2.2.2.1, .inl q.2.2.2.2.1, .inl f15, .inl q.2.2.2.2.2.1, .inl f17] [q.2.2.2.2.2.2.1, g1, q.2.2.2.2.2.2.2.1, g3, q.2.2.2.2.2.2.2.2.1, g5, g6, g7, g8, g9, g10, g11, q.2.2.2.2.2.2.2.2.2, g13, g14, g15, g16, g17, g18]) → good 42 [.inr 0, .inr 1, .inr 2, .inl x3, .inl x4, .inl x5, .inl x6, .inl x7, .inr 1000, .inr 1000] [] [.inl f0, .inl f1, .inr 7, .inr 9, .inl f4, .inl f5, .inl f6, .inl f7, .inl f8, .inl f9, .inl f10, .inl f11, .inl f12, .inl f13, .inl f14, .inl f15, .inl f16, .inl f17] [g0, g1, g2, g3, g4, g5, g6, g7, g8, g9, g10, g11, g12, g13, g14, g15, g16, g17, g18] := by
    intro n
    induction n with
    | zero => intro x3 x4 x5 x6 x7 f0 f4 f5 f6 f7 f13 f14 f16 g0 g2 g4 g5 g6 g12 g18 q h; exact absurd (show none = some q from h) (fun h => by cases h)
    | succ n ih =>
      intro x3 x4 x5 x6 x7 f0 f4 f5 f6 f7 f13 f14 f16 g0 g2 g4 g5 g6 g12 g18 q h hK
      replace h : zf_Pilot_followSecond_l1_b x3 x4 x6 f1 f6 f7 f8 f9 f10 f11 f12 f15 f17 g1 g3 g5 g6 g7 g8 g9 g10 g11 g13 g14 g15 (zf_Pilot_followSecond_l1 x3 x4 x6 f1 f6 f7 f8 f9 f10 f11 f12 f15 f17 g1 g3 g5 g6 g7 g8 g9 g10 g11 g13 g14 g15 n) x7 f0 f4 f5 f13 f14 f16 g0 g2 g4 g12 = some q := h
      unfold zf_Pilot_followSecond_l1_b at h
      refine zv_ild hB zd174_42 rfl rfl ?_
      refine zv_ald hB zd174_44 rfl rfl rfl ?_
      refine zv_getf hB zd174_45 rfl rfl (fun _ _ => ?_)
      refine zv_cge hB zd174_48 rfl (fun hc4 => ?_) (fun hc4 => ?_)
      · rw [if_neg (Int.not_lt.mpr hc4)] at h
        have hq := Option.some.inj h
        subst hq
        refine zv_wk hB (L' := [.inr 0, .inr 1, .inr 2, .inl x3, .inl x4, .inl x5, .inl x6, .inr 1000, .inr 1000, .inr 1000]) (F' := [.inl f0, .inl f1, .inr 7, .inr 9, .inl f4, .inl f5, .inl f6, .inl f7, .inl f8, .inl f9, .inl f10, .inl f11, .inl f12, .inl f13, .inl f14, .inl f15, .inl f16, .inl f17]) ⟨fun _ => rfl, fun _ => rfl, fun _ => rfl, fun _ => rfl, fun _ => rfl, fun _ => rfl, fun _ => rfl, fun (h : zv_is (.inr 1000)) => (Nat.lt_irrefl 1000 h).elim, fun (h : zv_is (.inr 1000)) => (Nat.lt_irrefl 1000 h).elim, fun (h : zv_is (.inr 1000)) => (Nat.lt_irrefl 1000 h).elim, trivial⟩ ⟨fun _ => rfl, fun _ => rfl, fun _ => rfl, fun _ => rfl, fun _ => rfl, fun _ => rfl, fun _ => rfl, fun _ => rfl, fun _ => rfl, fun _ => rfl, fun _ => rfl, fun _ => rfl, fun _ => rfl, fun _ => rfl, fun _ => rfl, fun _ => rfl, fun _ => rfl, fun _ => rfl, trivial⟩ ?_
        exact hK
      · rw [if_pos hc4] at h
        refine zv_ald hB zd174_51 rfl rfl rfl ?_
        refine zv_getr hB zd174_52 rfl ?_
        refine zv_ild hB zd174_55 rfl rfl ?_
        obtain ⟨c5, h⟩ := zi_if h
        refine zv_iald hB zd174_57 rfl rfl (zi_ix_ok c5).1 (zi_ix_ok c5).2 (fun _ _ => ?_)
        refine zv_ild hB zd174_58 rfl rfl ?_
        refine zv_cge hB zd174_60 rfl (fun hc6 => ?_) (fun hc6 => ?_)
        · rw [if_neg (Int.not_lt.mpr hc6)] at h
          have hq := Option.some.inj h
          subst hq
          refine zv_wk hB (L' := [.inr 0, .inr 1, .inr 2, .inl x3, .inl x4, .inl x5, .inl x6, .inr 1000, .inr 1000, .inr 1000]) (F' := [.inl f0, .inl f1, .inr 7, .inr 9, .inl f4, .inl f5, .inl f6, .inl f7, .inl f8, .inl f9, .inl f10, .inl f11, .inl f12, .inl f13, .inl f14, .inl f15, .inl f16, .inl f17]) ⟨fun _ => rfl, fun _ => rfl, fun _ => rfl, fun _ => rfl, fun _ => rfl, fun _ => rfl, fun _ => rfl, fun (h : zv_is (.inr 1000)) => (Nat.lt_irrefl 1000 h).elim, fun (h : zv_is (.inr 1000)) => (Nat.lt_irrefl 1000 h).elim, fun (h : zv_is (.inr 1000)) => (Nat.lt_irrefl 1000 h).elim, trivial⟩ ⟨fun _ => rfl, fun _ => rfl, fun _ => rfl, fun _ => rfl, fun _ => rfl, fun _ => rfl, fun _ => rfl, fun _ => rfl, fun _ => rfl, fun _ => rfl, fun _ => rfl, fun _ => rfl, fun _ => rfl, fun _ => rfl, fun _ => rfl, fun _ => rfl, fun _ => rfl, fun _ => rfl, trivial⟩ ?_
          exact hK
        · rw [if_pos hc6] at h
          refine zv_ald hB zd174_63 rfl rfl rfl ?_
          refine zv_getr hB zd174_64 rfl ?_
          refine zv_ild hB zd174_67 rfl rfl ?_
          refine zv_iald hB zd174_69 rfl rfl (zi_ix_ok c5).1 (zi_ix_ok c5).2 (fun _ _ => ?_)
          refine zv_ild hB zd174_70 rfl rfl ?_
          refine zv_con hB zd174_72 rfl ?_
          refine zv_subw hB zd174_73 ?_
          refine zv_cne hB zd174_74 rfl (fun hc7 => ?_) (fun hc7 => ?_)
          · rw [if_neg hc7] at h
            refine zv_ald hB zd174_87 rfl rfl rfl ?_
            refine zv_getr hB zd174_88 rfl ?_
            refine zv_ild hB zd174_91 rfl rfl ?_
            refine zv_iald hB zd174_93 rfl rfl (zi_ix_ok c5).1 (zi_ix_ok c5).2 (fun _ _ => ?_)
            refine zv_ist hB zd174_94 rfl rfl rfl ?_
            refine zv_ald hB zd174_96 rfl rfl rfl ?_
            refine zv_getr hB zd174_97 rfl ?_
            refine zv_ild hB zd174_100 rfl rfl ?_
            obtain ⟨c8, h⟩ := zi_if h
            refine zv_iald hB zd174_102 rfl rfl (zi_ix_ok c8).1 (zi_ix_ok c8).2 (fun _ _ => ?_)
            refine zv_con hB zd174_103 rfl ?_
            refine zv_cne hB zd174_104 rfl (fun hc9 => ?_) (fun hc9 => ?_)
            · rw [if_neg hc9] at h
              refine zv_ald hB zd174_123 rfl rfl rfl ?_
              refine zv_getr hB zd174_124 rfl ?_
              refine zv_ild hB zd174_127 rfl rfl ?_
              refine zv_ald hB zd174_129 rfl rfl rfl ?_
              refine zv_getr hB zd174_130 rfl ?_
              refine zv_ild hB zd174_133 rfl rfl ?_
              refine zv_iald hB zd174_135 rfl rfl (zi_ix_ok c8).1 (zi_ix_ok c8).2 (fun _ _ => ?_)
              refine zv_iast hB zd174_136 rfl rfl (zi_ix_ok c5).1 (zi_ix_ok c5).2 ?_
              refine zv_ald hB zd174_137 rfl rfl rfl ?_
              refine zv_getr hB zd174_138 rfl ?_
              refine zv_ild hB zd174_141 rfl rfl ?_
              refine zv_iald hB zd174_143 rfl rfl (zi_ix_ok c5).1 (zi_ix_ok c5).2 (fun _ _ => ?_)
              refine zv_ild hB zd174_144 rfl rfl ?_
              refine zv_cne hB zd174_146 rfl (fun hc10 => ?_) (fun hc10 => ?_)
              · rw [if_neg hc10] at h
                refine zv_iincw hB zd174_207 rfl rfl ?_
                refine zv_goto hB zd174_210 rfl ?_
                refine zv_wk hB (L' := [.inr 0, .inr 1, .inr 2, .inl x3, .inl x4, .inl x5, .inl x6, .inl (zi_w (x7 + 1)), .inr 1000, .inr 1000]) (F' := [.inl f0, .inl f1, .inr 7, .inr 9, .inl f4, .inl f5, .inl f6, .inl f7, .inl f8, .inl f9, .inl f10, .inl f11, .inl f12, .inl f13, .inl f14, .inl f15, .inl f16, .inl f17]) ⟨fun _ => rfl, fun _ => rfl, fun _ => rfl, fun _ => rfl, fun _ => rfl, fun _ => rfl, fun _ => rfl, fun _ => rfl, fun (h : zv_is (.inr 1000)) => (Nat.lt_irrefl 1000 h).elim, fun (h : zv_is (.inr 1000)) => (Nat.lt_irrefl 1000 h).elim, trivial⟩ ⟨fun _ => rfl, fun _ => rfl, fun _ => rfl, fun _ => rfl, fun _ => rfl, fun _ => rfl, fun _ => rfl, fun _ => rfl, fun _ => rfl, fun _ => rfl, fun _ => rfl, fun _ => rfl, fun _ => rfl, fun _ => rfl, fun _ => rfl, fun _ => rfl, fun _ => rfl, fun _ => rfl, trivial⟩ ?_
                exact ih _ _ _ _ _ _ _ _ _ _ _ _ _ _ _ _ _ _ _ _ q h hK
              · rw [if_pos hc10] at h
                refine zv_ild hB zd174_149 rfl rfl ?_
                refine zv_con hB zd174_151 rfl ?_
                refine zv_mulw hB zd174_154 ?_
                refine zv_ald hB zd174_155 rfl rfl rfl ?_
                refine zv_getr hB zd174_156 rfl ?_
                refine zv_ild hB zd174_159 rfl rfl ?_
                refine zv_iald hB zd174_161 rfl rfl (zi_ix_ok c5).1 (zi_ix_ok c5).2 (fun _ _ => ?_)
                refine zv_con hB zd174_162 rfl ?_
                refine zv_mulw hB zd174_164 ?_
                refine zv_ald hB zd174_165 rfl rfl rfl ?_
                refine zv_getr hB zd174_166 rfl ?_
                refine zv_ild hB zd174_169 rfl rfl ?_
                refine zv_iald hB zd174_171 rfl rfl (zi_ix_ok c5).1 (zi_ix_ok c5).2 (fun _ _ => ?_)
                refine zv_addw hB zd174_172 ?_
                refine zv_con hB zd174_173 rfl ?_
                refine zv_mulw hB zd174_175 ?_
                refine zv_addw hB zd174_176 ?_
                refine zv_ild hB zd174_177 rfl rfl ?_
                refine zv_addw hB zd174_178 ?_
                refine zv_ist hB zd174_179 rfl rfl rfl ?_
                refine zv_ald hB zd174_181 rfl rfl rfl ?_
                refine zv_ald hB zd174_182 rfl rfl rfl ?_
                refine zv_getf hB zd174_183 rfl rfl (fun _ _ => ?_)
                refine zv_con hB zd174_186 rfl ?_
                refine zv_cne hB zd174_187 rfl (fun hc11 => ?_) (fun hc11 => ?_)
                · rw [if_neg hc11] at h
                  refine zv_ald hB zd174_195 rfl rfl rfl ?_
                  refine zv_getf hB zd174_196 rfl rfl (fun _ _ => ?_)
                  refine zv_ild hB zd174_199 rfl rfl ?_
                  obtain ⟨r12, hr12, h⟩ := zi_bind h
                  refine zv_cs hB (zv_emq (va2 := [.inl f0, .inl (zi_w ((zi_w ((zi_w (x6 * 6912)) + (zi_w ((zi_w ((zi_w ((g3 x7) * 12)) + (g1 x7))) * 24)))) + x3))]) (F := [.inl f0, .inl f1, .inr 7, .inr 9, .inl f4, .inl f5, .inl f6, .inl f7, .inl f8, .inl f9, .inl f10, .inl f11, .inl f12, .inl f13, .inl f14, .inl f15, .inl f16, .inl f17]) (F' := [.inl f0, .inl f1, .inr 7, .inr 9, .inl f4, .inl f5, .inl f6, .inl f7, .inl f8, .inl f9, .inl f10, .inl f11, .inl f12, .inl f13, .inl f14, .inl f15, .inl f16, .inl f17]) (G := [g0, g1, (zv_up g2 x7 (g0 (g2 x7))), g3, g4, g5, g6, g7, g8, g9, g10, g11, g12, g13, g14, g15, g16, g17, g18]) (G' := [g0, g1, (zv_up g2 x7 (g0 (g2 x7))), g3, g4, g5, g6, g7, g8, g9, g10, g11, g12, g13, g14, g15, g16, g17, g18]) (ρ := []) (φ := []) (ψ := []) [none, none, none, none, none, none, none, none, none, none, none, none, none, none, none, none, none, none] [none, none, none, none, none, none, none, none, none, none, none, none, none, none, none, none, none, none, none] zyw_Math_min zyw_Pilot_followSecond zye_Pilot_followSecond (by decide +kernel) (zt_Math_min hr12) trivial trivial rfl rfl rfl rfl rfl rfl rfl) zd174_201 zxt37 rfl (by decide) (by decide) rfl ?_
                  refine zv_putf hB zd174_204 rfl rfl (fun h => by cases h) rfl ?_
                  refine zv_iincw hB zd174_207 rfl rfl ?_
                  refine zv_goto hB zd174_210 rfl ?_
                  refine zv_wk hB (L' := [.inr 0, .inr 1, .inr 2, .inl x3, .inl x4, .inl x5, .inl x6, .inl (zi_w (x7 + 1)), .inr 1000, .inr 1000]) (F' := [.inl r12, .inl f1, .inr 7, .inr 9, .inl f4, .inl f5, .inl f6, .inl f7, .inl f8, .inl f9, .inl f10, .inl f11, .inl f12, .inl f13, .inl f14, .inl f15, .inl f16, .inl f17]) ⟨fun _ => rfl, fun _ => rfl, fun _ => rfl, fun _ => rfl, fun _ => rfl, fun _ => rfl, fun _ => rfl, fun _ => rfl, fun (h : zv_is (.inr 1000)) => (Nat.lt_irrefl 1000 h).elim, fun (h : zv_is (.inr 1000)) => (Nat.lt_irrefl 1000 h).elim, trivial⟩ ⟨fun _ => rfl, fun _ => rfl, fun _ => rfl, fun _ => rfl, fun _ => rfl, fun _ => rfl, fun _ => rfl, fun _ => rfl, fun _ => rfl, fun _ => rfl, fun _ => rfl, fun _ => rfl, fun _ => rfl, fun _ => rfl, fun _ => rfl, fun _ => rfl, fun _ => rfl, fun _ => rfl, trivial⟩ ?_
                  exact ih _ _ _ _ _ _ _ _ _ _ _ _ _ _ _ _ _ _ _ _ q h hK
                · rw [if_pos hc11] at h
                  refine zv_ild hB zd174_190 rfl rfl ?_
                  refine zv_goto hB zd174_192 rfl ?_
                  refine zv_putf hB zd174_204 rfl rfl (fun h => by cases h) rfl ?_
                  refine zv_iincw hB zd174_207 rfl rfl ?_
                  refine zv_goto hB zd174_210 rfl ?_
                  refine zv_wk hB (L' := [.inr 0, .inr 1, .inr 2, .inl x3, .inl x4, .inl x5, .inl x6, .inl (zi_w (x7 + 1)), .inr 1000, .inr 1000]) (F' := [.inl (zi_w ((zi_w ((zi_w (x6 * 6912)) + (zi_w ((zi_w ((zi_w ((g3 x7) * 12)) + (g1 x7))) * 24)))) + x3)), .inl f1, .inr 7, .inr 9, .inl f4, .inl f5, .inl f6, .inl f7, .inl f8, .inl f9, .inl f10, .inl f11, .inl f12, .inl f13, .inl f14, .inl f15, .inl f16, .inl f17]) ⟨fun _ => rfl, fun _ => rfl, fun _ => rfl, fun _ => rfl, fun _ => rfl, fun _ => rfl, fun _ => rfl, fun _ => rfl, fun (h : zv_is (.inr 1000)) => (Nat.lt_irrefl 1000 h).elim, fun (h : zv_is (.inr 1000)) => (Nat.lt_irrefl 1000 h).elim, trivial⟩ ⟨fun _ => rfl, fun _ => rfl, fun _ => rfl, fun _ => rfl, fun _ => rfl, fun _ => rfl, fun _ => rfl, fun _ => rfl, fun _ => rfl, fun _ => rfl, fun _ => rfl, fun _ => rfl, fun _ => rfl, fun _ => rfl, fun _ => rfl, fun _ => rfl, fun _ => rfl, fun _ => rfl, trivial⟩ ?_
                  exact ih _ _ _ _ _ _ _ _ _ _ _ _ _ _ _ _ _ _ _ _ q h hK
            · rw [if_pos hc9] at h
              refine zv_ald hB zd174_107 rfl rfl rfl ?_
              refine zv_getr hB zd174_108 rfl ?_
              refine zv_ild hB zd174_111 rfl rfl ?_
              refine zv_ald hB zd174_113 rfl rfl rfl ?_
              refine zv_ald hB zd174_114 rfl rfl rfl ?_
              refine zv_ald hB zd174_115 rfl rfl rfl ?_
              refine zv_ild hB zd174_116 rfl rfl ?_
              refine zv_ild hB zd174_118 rfl rfl ?_
              obtain ⟨r13, hr13, h⟩ := zi_bind h
              refine zv_cv hB (zv_emq (va2 := [.inr 0, .inr 1, .inr 2, .inl (g2 x7), .inl x3]) (F := [.inl f0, .inl f1, .inr 7, .inr 9, .inl f4, .inl f5, .inl f6, .inl f7, .inl f8, .inl f9, .inl f10, .inl f11, .inl f12, .inl f13, .inl f14, .inl f15, .inl f16, .inl f17]) (F' := [.inl f0, .inl f1, .inr 7, .inr 9, .inl r13.2.1, .inl r13.2.2.1, .inl f6, .inl f7, .inl f8, .inl f9, .inl f10, .inl f11, .inl f12, .inl r13.2.2.2.1, .inl r13.2.2.2.2.1, .inl f15, .inl r13.2.2.2.2.2.1, .inl f17]) (G := [g0, g1, g2, g3, g4, g5, g6, g7, g8, g9, g10, g11, g12, g13, g14, g15, g16, g17, g18]) (G' := [g0, g1, g2, g3, r13.2.2.2.2.2.2.1, g5, g6, g7, g8, g9, g10, g11, r13.2.2.2.2.2.2.2, g13, g14, g15, g16, g17, g18]) (ρ := [0, 1, 2, 7, 8, 9, 10, 11, 12, 13, 14, 15, 16, 17, 18, 19]) (φ := [2, 3, 4, 5, 6, 7, 8, 9, 10, 11, 12, 13, 14, 15, 16, 17]) (ψ := [4, 5, 6, 7, 8, 9, 10, 11, 12, 13, 14]) [none, none, some 0, some 1, some 2, some 3, some 4, some 5, some 6, some 7, some 8, some 9, some 10, some 11, some 12, some 13, some 14, some 15] [none, none, none, none, some 0, some 1, some 2, some 3, some 4, some 5, some 6, some 7, some 8, some 9, some 10, none, none, none, none] zyw_Pilot_step zyw_Pilot_followSecond zye_Pilot_followSecond (by decide +kernel) (zt_Pilot_step hr13) ⟨⟨_, rfl, fun _ => rfl⟩, ⟨_, rfl, fun _ => rfl⟩, ⟨_, rfl, fun _ => rfl⟩, ⟨_, rfl, fun _ => rfl⟩, ⟨_, rfl, fun _ => rfl⟩, ⟨_, rfl, fun _ => rfl⟩, ⟨_, rfl, fun _ => rfl⟩, ⟨_, rfl, fun _ => rfl⟩, ⟨_, rfl, fun _ => rfl⟩, ⟨_, rfl, fun _ => rfl⟩, ⟨_, rfl, fun _ => rfl⟩, ⟨_, rfl, fun _ => rfl⟩, ⟨_, rfl, fun _ => rfl⟩, ⟨_, rfl, fun _ => rfl⟩, ⟨_, rfl, fun _ => rfl⟩, ⟨_, rfl, fun _ => rfl⟩, trivial⟩ ⟨rfl, rfl, rfl, rfl, rfl, rfl, rfl, rfl, rfl, rfl, rfl, trivial⟩ rfl rfl rfl rfl rfl rfl rfl) zd174_119 zxt153 rfl (by decide) (by decide) rfl ?_
              refine zv_iast hB zd174_122 rfl rfl (zi_ix_ok c8).1 (zi_ix_ok c8).2 ?_
              refine zv_ald hB zd174_123 rfl rfl rfl ?_
              refine zv_getr hB zd174_124 rfl ?_
              refine zv_ild hB zd174_127 rfl rfl ?_
              refine zv_ald hB zd174_129 rfl rfl rfl ?_
              refine zv_getr hB zd174_130 rfl ?_
              refine zv_ild hB zd174_133 rfl rfl ?_
              refine zv_iald hB zd174_135 rfl rfl (zi_ix_ok c8).1 (zi_ix_ok c8).2 (fun _ _ => ?_)
              refine zv_iast hB zd174_136 rfl rfl (zi_ix_ok c5).1 (zi_ix_ok c5).2 ?_
              refine zv_ald hB zd174_137 rfl rfl rfl ?_
              refine zv_getr hB zd174_138 rfl ?_
              refine zv_ild hB zd174_141 rfl rfl ?_
              refine zv_iald hB zd174_143 rfl rfl (zi_ix_ok c5).1 (zi_ix_ok c5).2 (fun _ _ => ?_)
              refine zv_ild hB zd174_144 rfl rfl ?_
              refine zv_cne hB zd174_146 rfl (fun hc14 => ?_) (fun hc14 => ?_)
              · rw [if_neg hc14] at h
                refine zv_iincw hB zd174_207 rfl rfl ?_
                refine zv_goto hB zd174_210 rfl ?_
                refine zv_wk hB (L' := [.inr 0, .inr 1, .inr 2, .inl x3, .inl x4, .inl x5, .inl x6, .inl (zi_w (x7 + 1)), .inr 1000, .inr 1000]) (F' := [.inl f0, .inl f1, .inr 7, .inr 9, .inl r13.2.1, .inl r13.2.2.1, .inl f6, .inl f7, .inl f8, .inl f9, .inl f10, .inl f11, .inl f12, .inl r13.2.2.2.1, .inl r13.2.2.2.2.1, .inl f15, .inl r13.2.2.2.2.2.1, .inl f17]) ⟨fun _ => rfl, fun _ => rfl, fun _ => rfl, fun _ => rfl, fun _ => rfl, fun _ => rfl, fun _ => rfl, fun _ => rfl, fun (h : zv_is (.inr 1000)) => (Nat.lt_irrefl 1000 h).elim, fun (h : zv_is (.inr 1000)) => (Nat.lt_irrefl 1000 h).elim, trivial⟩ ⟨fun _ => rfl, fun _ => rfl, fun _ => rfl, fun _ => rfl, fun _ => rfl, fun _ => rfl, fun _ => rfl, fun _ => rfl, fun _ => rfl, fun _ => rfl, fun _ => rfl, fun _ => rfl, fun _ => rfl, fun _ => rfl, fun _ => rfl, fun _ => rfl, fun _ => rfl, fun _ => rfl, trivial⟩ ?_
                exact ih _ _ _ _ _ _ _ _ _ _ _ _ _ _ _ _ _ _ _ _ q h hK
              · rw [if_pos hc14] at h
                refine zv_ild hB zd174_149 rfl rfl ?_
                refine zv_con hB zd174_151 rfl ?_
                refine zv_mulw hB zd174_154 ?_
                refine zv_ald hB zd174_155 rfl rfl rfl ?_
                refine zv_getr hB zd174_156 rfl ?_
                refine zv_ild hB zd174_159 rfl rfl ?_
                refine zv_iald hB zd174_161 rfl rfl (zi_ix_ok c5).1 (zi_ix_ok c5).2 (fun _ _ => ?_)
                refine zv_con hB zd174_162 rfl ?_
                refine zv_mulw hB zd174_164 ?_
                refine zv_ald hB zd174_165 rfl rfl rfl ?_
                refine zv_getr hB zd174_166 rfl ?_
                refine zv_ild hB zd174_169 rfl rfl ?_
                refine zv_iald hB zd174_171 rfl rfl (zi_ix_ok c5).1 (zi_ix_ok c5).2 (fun _ _ => ?_)
                refine zv_addw hB zd174_172 ?_
                refine zv_con hB zd174_173 rfl ?_
                refine zv_mulw hB zd174_175 ?_
                refine zv_addw hB zd174_176 ?_
                refine zv_ild hB zd174_177 rfl rfl ?_
                refine zv_addw hB zd174_178 ?_
                refine zv_ist hB zd174_179 rfl rfl rfl ?_
                refine zv_ald hB zd174_181 rfl rfl rfl ?_
                refine zv_ald hB zd174_182 rfl rfl rfl ?_
                refine zv_getf hB zd174_183 rfl rfl (fun _ _ => ?_)
                refine zv_con hB zd174_186 rfl ?_
                refine zv_cne hB zd174_187 rfl (fun hc15 => ?_) (fun hc15 => ?_)
                · rw [if_neg hc15] at h
                  refine zv_ald hB zd174_195 rfl rfl rfl ?_
                  refine zv_getf hB zd174_196 rfl rfl (fun _ _ => ?_)
                  refine zv_ild hB zd174_199 rfl rfl ?_
                  obtain ⟨r16, hr16, h⟩ := zi_bind h
                  refine zv_cs hB (zv_emq (va2 := [.inl f0, .inl (zi_w ((zi_w ((zi_w (x6 * 6912)) + (zi_w ((zi_w ((zi_w ((g3 x7) * 12)) + (g1 x7))) * 24)))) + x3))]) (F := [.inl f0, .inl f1, .inr 7, .inr 9, .inl r13.2.1, .inl r13.2.2.1, .inl f6, .inl f7, .inl f8, .inl f9, .inl f10, .inl f11, .inl f12, .inl r13.2.2.2.1, .inl r13.2.2.2.2.1, .inl f15, .inl r13.2.2.2.2.2.1, .inl f17]) (F' := [.inl f0, .inl f1, .inr 7, .inr 9, .inl r13.2.1, .inl r13.2.2.1, .inl f6, .inl f7, .inl f8, .inl f9, .inl f10, .inl f11, .inl f12, .inl r13.2.2.2.1, .inl r13.2.2.2.2.1, .inl f15, .inl r13.2.2.2.2.2.1, .inl f17]) (G := [(zv_up g0 (g2 x7) r13.1), g1, (zv_up g2 x7 ((zv_up g0 (g2 x7) r13.1) (g2 x7))), g3, r13.2.2.2.2.2.2.1, g5, g6, g7, g8, g9, g10, g11, r13.2.2.2.2.2.2.2, g13, g14, g15, g16, g17, g18]) (G' := [(zv_up g0 (g2 x7) r13.1), g1, (zv_up g2 x7 ((zv_up g0 (g2 x7) r13.1) (g2 x7))), g3, r13.2.2.2.2.2.2.1, g5, g6, g7, g8, g9, g10, g11, r13.2.2.2.2.2.2.2, g13, g14, g15, g16, g17, g18]) (ρ := []) (φ := []) (ψ := []) [none, none, none, none, none, none, none, none, none, none, none, none, none, none, none, none, none, none] [none, none, none, none, none, none, none, none, none, none, none, none, none, none, none, none, none, none, none] zyw_Math_min zyw_Pilot_followSecond zye_Pilot_followSecond (by decide +kernel) (zt_Math_min hr16) trivial trivial rfl rfl rfl rfl rfl rfl rfl) zd174_201 zxt37 rfl (by decide) (by decide) rfl ?_
                  refine zv_putf hB zd174_204 rfl rfl (fun h => by cases h) rfl ?_
                  refine zv_iincw hB zd174_207 rfl rfl ?_
                  refine zv_goto hB zd174_210 rfl ?_
                  refine zv_wk hB (L' := [.inr 0, .inr 1, .inr 2, .inl x3, .inl x4, .inl x5, .inl x6, .inl (zi_w (x7 + 1)), .inr 1000, .inr 1000]) (F' := [.inl r16, .inl f1, .inr 7, .inr 9, .inl r13.2.1, .inl r13.2.2.1, .inl f6, .inl f7, .inl f8, .inl f9, .inl f10, .inl f11, .inl f12, .inl r13.2.2.2.1, .inl r13.2.2.2.2.1, .inl f15, .inl r13.2.2.2.2.2.1, .inl f17]) ⟨fun _ => rfl, fun _ => rfl, fun _ => rfl, fun _ => rfl, fun _ => rfl, fun _ => rfl, fun _ => rfl, fun _ => rfl, fun (h : zv_is (.inr 1000)) => (Nat.lt_irrefl 1000 h).elim, fun (h : zv_is (.inr 1000)) => (Nat.lt_irrefl 1000 h).elim, trivial⟩ ⟨fun _ => rfl, fun _ => rfl, fun _ => rfl, fun _ => rfl, fun _ => rfl, fun _ => rfl, fun _ => rfl, fun _ => rfl, fun _ => rfl, fun _ => rfl, fun _ => rfl, fun _ => rfl, fun _ => rfl, fun _ => rfl, fun _ => rfl, fun _ => rfl, fun _ => rfl, fun _ => rfl, trivial⟩ ?_
                  exact ih _ _ _ _ _ _ _ _ _ _ _ _ _ _ _ _ _ _ _ _ q h hK
                · rw [if_pos hc15] at h
                  refine zv_ild hB zd174_190 rfl rfl ?_
                  refine zv_goto hB zd174_192 rfl ?_
                  refine zv_putf hB zd174_204 rfl rfl (fun h => by cases h) rfl ?_
                  refine zv_iincw hB zd174_207 rfl rfl ?_
                  refine zv_goto hB zd174_210 rfl ?_
                  refine zv_wk hB (L' := [.inr 0, .inr 1, .inr 2, .inl x3, .inl x4, .inl x5, .inl x6, .inl (zi_w (x7 + 1)), .inr 1000, .inr 1000]) (F' := [.inl (zi_w ((zi_w ((zi_w (x6 * 6912)) + (zi_w ((zi_w ((zi_w ((g3 x7) * 12)) + (g1 x7))) * 24)))) + x3)), .inl f1, .inr 7, .inr 9, .inl r13.2.1, .inl r13.2.2.1, .inl f6, .inl f7, .inl f8, .inl f9, .inl f10, .inl f11, .inl f12, .inl r13.2.2.2.1, .inl r13.2.2.2.2.1, .inl f15, .inl r13.2.2.2.2.2.1, .inl f17]) ⟨fun _ => rfl, fun _ => rfl, fun _ => rfl, fun _ => rfl, fun _ => rfl, fun _ => rfl, fun _ => rfl, fun _ => rfl, fun (h : zv_is (.inr 1000)) => (Nat.lt_irrefl 1000 h).elim, fun (h : zv_is (.inr 1000)) => (Nat.lt_irrefl 1000 h).elim, trivial⟩ ⟨fun _ => rfl, fun _ => rfl, fun _ => rfl, fun _ => rfl, fun _ => rfl, fun _ => rfl, fun _ => rfl, fun _ => rfl, fun _ => rfl, fun _ => rfl, fun _ => rfl, fun _ => rfl, fun _ => rfl, fun _ => rfl, fun _ => rfl, fun _ => rfl, fun _ => rfl, fun _ => rfl, trivial⟩ ?_
                  exact ih _ _ _ _ _ _ _ _ _ _ _ _ _ _ _ _ _ _ _ _ q h hK
          · rw [if_pos hc7] at h
            refine zv_ald hB zd174_77 rfl rfl rfl ?_
            refine zv_getr hB zd174_78 rfl ?_
            refine zv_ild hB zd174_81 rfl rfl ?_
            refine zv_iald hB zd174_83 rfl rfl (zi_ix_ok c5).1 (zi_ix_ok c5).2 (fun _ _ => ?_)
            refine zv_goto hB zd174_84 rfl ?_
            refine zv_ist hB zd174_94 rfl rfl rfl ?_
            refine zv_ald hB zd174_96 rfl rfl rfl ?_
            refine zv_getr hB zd174_97 rfl ?_
            refine zv_ild hB zd174_100 rfl rfl ?_
            obtain ⟨c17, h⟩ := zi_if h
            refine zv_iald hB zd174_102 rfl rfl (zi_ix_ok c17).1 (zi_ix_ok c17).2 (fun _ _ => ?_)
            refine zv_con hB zd174_103 rfl ?_
            refine zv_cne hB zd174_104 rfl (fun hc18 => ?_) (fun hc18 => ?_)
            · rw [if_neg hc18] at h
              refine zv_ald hB zd174_123 rfl rfl rfl ?_
              refine zv_getr hB zd174_124 rfl ?_
              refine zv_ild hB zd174_127 rfl rfl ?_
              refine zv_ald hB zd174_129 rfl rfl rfl ?_
              refine zv_getr hB zd174_130 rfl ?_
              refine zv_ild hB zd174_133 rfl rfl ?_
              refine zv_iald hB zd174_135 rfl rfl (zi_ix_ok c17).1 (zi_ix_ok c17).2 (fun _ _ => ?_)
              refine zv_iast hB zd174_136 rfl rfl (zi_ix_ok c5).1 (zi_ix_ok c5).2 ?_
              refine zv_ald hB zd174_137 rfl rfl rfl ?_
              refine zv_getr hB zd174_138 rfl ?_
              refine zv_ild hB zd174_141 rfl rfl ?_
              refine zv_iald hB zd174_143 rfl rfl (zi_ix_ok c5).1 (zi_ix_ok c5).2 (fun _ _ => ?_)
              refine zv_ild hB zd174_144 rfl rfl ?_
              refine zv_cne hB zd174_146 rfl (fun hc19 => ?_) (fun hc19 => ?_)
              · rw [if_neg hc19] at h
                refine zv_iincw hB zd174_207 rfl rfl ?_
                refine zv_goto hB zd174_210 rfl ?_
                refine zv_wk hB (L' := [.inr 0, .inr 1, .inr 2, .inl x3, .inl x4, .inl x5, .inl x6, .inl (zi_w (x7 + 1)), .inr 1000, .inr 1000]) (F' := [.inl f0, .inl f1, .inr 7, .inr 9, .inl f4, .inl f5, .inl f6, .inl f7, .inl f8, .inl f9, .inl f10, .inl f11, .inl f12, .inl f13, .inl f14, .inl f15, .inl f16, .inl f17]) ⟨fun _ => rfl, fun _ => rfl, fun _ => rfl, fun _ => rfl, fun _ => rfl, fun _ => rfl, fun _ => rfl, fun _ => rfl, fun (h : zv_is (.inr 1000)) => (Nat.lt_irrefl 1000 h).elim, fun (h : zv_is (.inr 1000)) => (Nat.lt_irrefl 1000 h).elim, trivial⟩ ⟨fun _ => rfl, fun _ => rfl, fun _ => rfl, fun _ => rfl, fun _ => rfl, fun _ => rfl, fun _ => rfl, fun _ => rfl, fun _ => rfl, fun _ => rfl, fun _ => rfl, fun _ => rfl, fun _ => rfl, fun _ => rfl, fun _ => rfl, fun _ => rfl, fun _ => rfl, fun _ => rfl, trivial⟩ ?_
                exact ih _ _ _ _ _ _ _ _ _ _ _ _ _ _ _ _ _ _ _ _ q h hK
              · rw [if_pos hc19] at h
                refine zv_ild hB zd174_149 rfl rfl ?_
                refine zv_con hB zd174_151 rfl ?_
                refine zv_mulw hB zd174_154 ?_
                refine zv_ald hB zd174_155 rfl rfl rfl ?_
                refine zv_getr hB zd174_156 rfl ?_
                refine zv_ild hB zd174_159 rfl rfl ?_
                refine zv_iald hB zd174_161 rfl rfl (zi_ix_ok c5).1 (zi_ix_ok c5).2 (fun _ _ => ?_)
                refine zv_con hB zd174_162 rfl ?_
                refine zv_mulw hB zd174_164 ?_
                refine zv_ald hB zd174_165 rfl rfl rfl ?_
                refine zv_getr hB zd174_166 rfl ?_
                refine zv_ild hB zd174_169 rfl rfl ?_
                refine zv_iald hB zd174_171 rfl rfl (zi_ix_ok c5).1 (zi_ix_ok c5).2 (fun _ _ => ?_)
                refine zv_addw hB zd174_172 ?_
                refine zv_con hB zd174_173 rfl ?_
                refine zv_mulw hB zd174_175 ?_
                refine zv_addw hB zd174_176 ?_
                refine zv_ild hB zd174_177 rfl rfl ?_
                refine zv_addw hB zd174_178 ?_
                refine zv_ist hB zd174_179 rfl rfl rfl ?_
                refine zv_ald hB zd174_181 rfl rfl rfl ?_
                refine zv_ald hB zd174_182 rfl rfl rfl ?_
                refine zv_getf hB zd174_183 rfl rfl (fun _ _ => ?_)
                refine zv_con hB zd174_186 rfl ?_
                refine zv_cne hB zd174_187 rfl (fun hc20 => ?_) (fun hc20 => ?_)
                · rw [if_neg hc20] at h
                  refine zv_ald hB zd174_195 rfl rfl rfl ?_
                  refine zv_getf hB zd174_196 rfl rfl (fun _ _ => ?_)
                  refine zv_ild hB zd174_199 rfl rfl ?_
                  obtain ⟨r21, hr21, h⟩ := zi_bind h
                  refine zv_cs hB (zv_emq (va2 := [.inl f0, .inl (zi_w ((zi_w ((zi_w (x6 * 6912)) + (zi_w ((zi_w ((zi_w ((g3 x7) * 12)) + (g1 x7))) * 24)))) + x3))]) (F := [.inl f0, .inl f1, .inr 7, .inr 9, .inl f4, .inl f5, .inl f6, .inl f7, .inl f8, .inl f9, .inl f10, .inl f11, .inl f12, .inl f13, .inl f14, .inl f15, .inl f16, .inl f17]) (F' := [.inl f0, .inl f1, .inr 7, .inr 9, .inl f4, .inl f5, .inl f6, .inl f7, .inl f8, .inl f9, .inl f10, .inl f11, .inl f12, .inl f13, .inl f14, .inl f15, .inl f16, .inl f17]) (G := [g0, g1, (zv_up g2 x7 (g0 (g15 x7))), g3, g4, g5, g6, g7, g8, g9, g10, g11, g12, g13, g14, g15, g16, g17, g18]) (G' := [g0, g1, (zv_up g2 x7 (g0 (g15 x7))), g3, g4, g5, g6, g7, g8, g9, g10, g11, g12, g13, g14, g15, g16, g17, g18]) (ρ := []) (φ := []) (ψ := []) [none, none, none, none, none, none, none, none, none, none, none, none, none, none, none, none, none, none] [none, none, none, none, none, none, none, none, none, none, none, none, none, none, none, none, none, none, none] zyw_Math_min zyw_Pilot_followSecond zye_Pilot_followSecond (by decide +kernel) (zt_Math_min hr21) trivial trivial rfl rfl rfl rfl rfl rfl rfl) zd174_201 zxt37 rfl (by decide) (by decide) rfl ?_
                  refine zv_putf hB zd174_204 rfl rfl (fun h => by cases h) rfl ?_
                  refine zv_iincw hB zd174_207 rfl rfl ?_
                  refine zv_goto hB zd174_210 rfl ?_
                  refine zv_wk hB (L' := [.inr 0, .inr 1, .inr 2, .inl x3, .inl x4, .inl x5, .inl x6, .inl (zi_w (x7 + 1)), .inr 1000, .inr 1000]) (F' := [.inl r21, .inl f1, .inr 7, .inr 9, .inl f4, .inl f5, .inl f6, .inl f7, .inl f8, .inl f9, .inl f10, .inl f11, .inl f12, .inl f13, .inl f14, .inl f15, .inl f16, .inl f17]) ⟨fun _ => rfl, fun _ => rfl, fun _ => rfl, fun _ => rfl, fun _ => rfl, fun _ => rfl, fun _ => rfl, fun _ => rfl, fun (h : zv_is (.inr 1000)) => (Nat.lt_irrefl 1000 h).elim, fun (h : zv_is (.inr 1000)) => (Nat.lt_irrefl 1000 h).elim, trivial⟩ ⟨fun _ => rfl, fun _ => rfl, fun _ => rfl, fun _ => rfl, fun _ => rfl, fun _ => rfl, fun _ => rfl, fun _ => rfl, fun _ => rfl, fun _ => rfl, fun _ => rfl, fun _ => rfl, fun _ => rfl, fun _ => rfl, fun _ => rfl, fun _ => rfl, fun _ => rfl, fun _ => rfl, trivial⟩ ?_
                  exact ih _ _ _ _ _ _ _ _ _ _ _ _ _ _ _ _ _ _ _ _ q h hK
                · rw [if_pos hc20] at h
                  refine zv_ild hB zd174_190 rfl rfl ?_
                  refine zv_goto hB zd174_192 rfl ?_
                  refine zv_putf hB zd174_204 rfl rfl (fun h => by cases h) rfl ?_
                  refine zv_iincw hB zd174_207 rfl rfl ?_
                  refine zv_goto hB zd174_210 rfl ?_
                  refine zv_wk hB (L' := [.inr 0, .inr 1, .inr 2, .inl x3, .inl x4, .inl x5, .inl x6, .inl (zi_w (x7 + 1)), .inr 1000, .inr 1000]) (F' := [.inl (zi_w ((zi_w ((zi_w (x6 * 6912)) + (zi_w ((zi_w ((zi_w ((g3 x7) * 12)) + (g1 x7))) * 24)))) + x3)), .inl f1, .inr 7, .inr 9, .inl f4, .inl f5, .inl f6, .inl f7, .inl f8, .inl f9, .inl f10, .inl f11, .inl f12, .inl f13, .inl f14, .inl f15, .inl f16, .inl f17]) ⟨fun _ => rfl, fun _ => rfl, fun _ => rfl, fun _ => rfl, fun _ => rfl, fun _ => rfl, fun _ => rfl, fun _ => rfl, fun (h : zv_is (.inr 1000)) => (Nat.lt_irrefl 1000 h).elim, fun (h : zv_is (.inr 1000)) => (Nat.lt_irrefl 1000 h).elim, trivial⟩ ⟨fun _ => rfl, fun _ => rfl, fun _ => rfl, fun _ => rfl, fun _ => rfl, fun _ => rfl, fun _ => rfl, fun _ => rfl, fun _ => rfl, fun _ => rfl, fun _ => rfl, fun _ => rfl, fun _ => rfl, fun _ => rfl, fun _ => rfl, fun _ => rfl, fun _ => rfl, fun _ => rfl, trivial⟩ ?_
                  exact ih _ _ _ _ _ _ _ _ _ _ _ _ _ _ _ _ _ _ _ _ q h hK
            · rw [if_pos hc18] at h
              refine zv_ald hB zd174_107 rfl rfl rfl ?_
              refine zv_getr hB zd174_108 rfl ?_
              refine zv_ild hB zd174_111 rfl rfl ?_
              refine zv_ald hB zd174_113 rfl rfl rfl ?_
              refine zv_ald hB zd174_114 rfl rfl rfl ?_
              refine zv_ald hB zd174_115 rfl rfl rfl ?_
              refine zv_ild hB zd174_116 rfl rfl ?_
              refine zv_ild hB zd174_118 rfl rfl ?_
              obtain ⟨r22, hr22, h⟩ := zi_bind h
              refine zv_cv hB (zv_emq (va2 := [.inr 0, .inr 1, .inr 2, .inl (g15 x7), .inl x3]) (F := [.inl f0, .inl f1, .inr 7, .inr 9, .inl f4, .inl f5, .inl f6, .inl f7, .inl f8, .inl f9, .inl f10, .inl f11, .inl f12, .inl f13, .inl f14, .inl f15, .inl f16, .inl f17]) (F' := [.inl f0, .inl f1, .inr 7, .inr 9, .inl r22.2.1, .inl r22.2.2.1, .inl f6, .inl f7, .inl f8, .inl f9, .inl f10, .inl f11, .inl f12, .inl r22.2.2.2.1, .inl r22.2.2.2.2.1, .inl f15, .inl r22.2.2.2.2.2.1, .inl f17]) (G := [g0, g1, g2, g3, g4, g5, g6, g7, g8, g9, g10, g11, g12, g13, g14, g15, g16, g17, g18]) (G' := [g0, g1, g2, g3, r22.2.2.2.2.2.2.1, g5, g6, g7, g8, g9, g10, g11, r22.2.2.2.2.2.2.2, g13, g14, g15, g16, g17, g18]) (ρ := [0, 1, 2, 7, 8, 9, 10, 11, 12, 13, 14, 15, 16, 17, 18, 19]) (φ := [2, 3, 4, 5, 6, 7, 8, 9, 10, 11, 12, 13, 14, 15, 16, 17]) (ψ := [4, 5, 6, 7, 8, 9, 10, 11, 12, 13, 14]) [none, none, some 0, some 1, some 2, some 3, some 4, some 5, some 6, some 7, some 8, some 9, some 10, some 11, some 12, some 13, some 14, some 15] [none, none, none, none, some 0, some 1, some 2, some 3, some 4, some 5, some 6, some 7, some 8, some 9, some 10, none, none, none, none] zyw_Pilot_step zyw_Pilot_followSecond zye_Pilot_followSecond (by decide +kernel) (zt_Pilot_step hr22) ⟨⟨_, rfl, fun _ => rfl⟩, ⟨_, rfl, fun _ => rfl⟩, ⟨_, rfl, fun _ => rfl⟩, ⟨_, rfl, fun _ => rfl⟩, ⟨_, rfl, fun _ => rfl⟩, ⟨_, rfl, fun _ => rfl⟩, ⟨_, rfl, fun _ => rfl⟩, ⟨_, rfl, fun _ => rfl⟩, ⟨_, rfl, fun _ => rfl⟩, ⟨_, rfl, fun _ => rfl⟩, ⟨_, rfl, fun _ => rfl⟩, ⟨_, rfl, fun _ => rfl⟩, ⟨_, rfl, fun _ => rfl⟩, ⟨_, rfl, fun _ => rfl⟩, ⟨_, rfl, fun _ => rfl⟩, ⟨_, rfl, fun _ => rfl⟩, trivial⟩ ⟨rfl, rfl, rfl, rfl, rfl, rfl, rfl, rfl, rfl, rfl, rfl, trivial⟩ rfl rfl rfl rfl rfl rfl rfl) zd174_119 zxt153 rfl (by decide) (by decide) rfl ?_
              refine zv_iast hB zd174_122 rfl rfl (zi_ix_ok c17).1 (zi_ix_ok c17).2 ?_
              refine zv_ald hB zd174_123 rfl rfl rfl ?_
              refine zv_getr hB zd174_124 rfl ?_
              refine zv_ild hB zd174_127 rfl rfl ?_
              refine zv_ald hB zd174_129 rfl rfl rfl ?_
              refine zv_getr hB zd174_130 rfl ?_
              refine zv_ild hB zd174_133 rfl rfl ?_
              refine zv_iald hB zd174_135 rfl rfl (zi_ix_ok c17).1 (zi_ix_ok c17).2 (fun _ _ => ?_)
              refine zv_iast hB zd174_136 rfl rfl (zi_ix_ok c5).1 (zi_ix_ok c5).2 ?_
              refine zv_ald hB zd174_137 rfl rfl rfl ?_
              refine zv_getr hB zd174_138 rfl ?_
              refine zv_ild hB zd174_141 rfl rfl ?_
              refine zv_iald hB zd174_143 rfl rfl (zi_ix_ok c5).1 (zi_ix_ok c5).2 (fun _ _ => ?_)
              refine zv_ild hB zd174_144 rfl rfl ?_
              refine zv_cne hB zd174_146 rfl (fun hc23 => ?_) (fun hc23 => ?_)
              · rw [if_neg hc23] at h
                refine zv_iincw hB zd174_207 rfl rfl ?_
                refine zv_goto hB zd174_210 rfl ?_
                refine zv_wk hB (L' := [.inr 0, .inr 1, .inr 2, .inl x3, .inl x4, .inl x5, .inl x6, .inl (zi_w (x7 + 1)), .inr 1000, .inr 1000]) (F' := [.inl f0, .inl f1, .inr 7, .inr 9, .inl r22.2.1, .inl r22.2.2.1, .inl f6, .inl f7, .inl f8, .inl f9, .inl f10, .inl f11, .inl f12, .inl r22.2.2.2.1, .inl r22.2.2.2.2.1, .inl f15, .inl r22.2.2.2.2.2.1, .inl f17]) ⟨fun _ => rfl, fun _ => rfl, fun _ => rfl, fun _ => rfl, fun _ => rfl, fun _ => rfl, fun _ => rfl, fun _ => rfl, fun (h : zv_is (.inr 1000)) => (Nat.lt_irrefl 1000 h).elim, fun (h : zv_is (.inr 1000)) => (Nat.lt_irrefl 1000 h).elim, trivial⟩ ⟨fun _ => rfl, fun _ => rfl, fun _ => rfl, fun _ => rfl, fun _ => rfl, fun _ => rfl, fun _ => rfl, fun _ => rfl, fun _ => rfl, fun _ => rfl, fun _ => rfl, fun _ => rfl, fun _ => rfl, fun _ => rfl, fun _ => rfl, fun _ => rfl, fun _ => rfl, fun _ => rfl, trivial⟩ ?_
                exact ih _ _ _ _ _ _ _ _ _ _ _ _ _ _ _ _ _ _ _ _ q h hK
              · rw [if_pos hc23] at h
                refine zv_ild hB zd174_149 rfl rfl ?_
                refine zv_con hB zd174_151 rfl ?_
                refine zv_mulw hB zd174_154 ?_
                refine zv_ald hB zd174_155 rfl rfl rfl ?_
                refine zv_getr hB zd174_156 rfl ?_
                refine zv_ild hB zd174_159 rfl rfl ?_
                refine zv_iald hB zd174_161 rfl rfl (zi_ix_ok c5).1 (zi_ix_ok c5).2 (fun _ _ => ?_)
                refine zv_con hB zd174_162 rfl ?_
                refine zv_mulw hB zd174_164 ?_
                refine zv_ald hB zd174_165 rfl rfl rfl ?_
                refine zv_getr hB zd174_166 rfl ?_
                refine zv_ild hB zd174_169 rfl rfl ?_
                refine zv_iald hB zd174_171 rfl rfl (zi_ix_ok c5).1 (zi_ix_ok c5).2 (fun _ _ => ?_)
                refine zv_addw hB zd174_172 ?_
                refine zv_con hB zd174_173 rfl ?_
                refine zv_mulw hB zd174_175 ?_
                refine zv_addw hB zd174_176 ?_
                refine zv_ild hB zd174_177 rfl rfl ?_
                refine zv_addw hB zd174_178 ?_
                refine zv_ist hB zd174_179 rfl rfl rfl ?_
                refine zv_ald hB zd174_181 rfl rfl rfl ?_
                refine zv_ald hB zd174_182 rfl rfl rfl ?_
                refine zv_getf hB zd174_183 rfl rfl (fun _ _ => ?_)
                refine zv_con hB zd174_186 rfl ?_
                refine zv_cne hB zd174_187 rfl (fun hc24 => ?_) (fun hc24 => ?_)
                · rw [if_neg hc24] at h
                  refine zv_ald hB zd174_195 rfl rfl rfl ?_
                  refine zv_getf hB zd174_196 rfl rfl (fun _ _ => ?_)
                  refine zv_ild hB zd174_199 rfl rfl ?_
                  obtain ⟨r25, hr25, h⟩ := zi_bind h
                  refine zv_cs hB (zv_emq (va2 := [.inl f0, .inl (zi_w ((zi_w ((zi_w (x6 * 6912)) + (zi_w ((zi_w ((zi_w ((g3 x7) * 12)) + (g1 x7))) * 24)))) + x3))]) (F := [.inl f0, .inl f1, .inr 7, .inr 9, .inl r22.2.1, .inl r22.2.2.1, .inl f6, .inl f7, .inl f8, .inl f9, .inl f10, .inl f11, .inl f12, .inl r22.2.2.2.1, .inl r22.2.2.2.2.1, .inl f15, .inl r22.2.2.2.2.2.1, .inl f17]) (F' := [.inl f0, .inl f1, .inr 7, .inr 9, .inl r22.2.1, .inl r22.2.2.1, .inl f6, .inl f7, .inl f8, .inl f9, .inl f10, .inl f11, .inl f12, .inl r22.2.2.2.1, .inl r22.2.2.2.2.1, .inl f15, .inl r22.2.2.2.2.2.1, .inl f17]) (G := [(zv_up g0 (g15 x7) r22.1), g1, (zv_up g2 x7 ((zv_up g0 (g15 x7) r22.1) (g15 x7))), g3, r22.2.2.2.2.2.2.1, g5, g6, g7, g8, g9, g10, g11, r22.2.2.2.2.2.2.2, g13, g14, g15, g16, g17, g18]) (G' := [(zv_up g0 (g15 x7) r22.1), g1, (zv_up g2 x7 ((zv_up g0 (g15 x7) r22.1) (g15 x7))), g3, r22.2.2.2.2.2.2.1, g5, g6, g7, g8, g9, g10, g11, r22.2.2.2.2.2.2.2, g13, g14, g15, g16, g17, g18]) (ρ := []) (φ := []) (ψ := []) [none, none, none, none, none, none, none, none, none, none, none, none, none, none, none, none, none, none] [none, none, none, none, none, none, none, none, none, none, none, none, none, none, none, none, none, none, none] zyw_Math_min zyw_Pilot_followSecond zye_Pilot_followSecond (by decide +kernel) (zt_Math_min hr25) trivial trivial rfl rfl rfl rfl rfl rfl rfl) zd174_201 zxt37 rfl (by decide) (by decide) rfl ?_
                  refine zv_putf hB zd174_204 rfl rfl (fun h => by cases h) rfl ?_
                  refine zv_iincw hB zd174_207 rfl rfl ?_
                  refine zv_goto hB zd174_210 rfl ?_
                  refine zv_wk hB (L' := [.inr 0, .inr 1, .inr 2, .inl x3, .inl x4, .inl x5, .inl x6, .inl (zi_w (x7 + 1)), .inr 1000, .inr 1000]) (F' := [.inl r25, .inl f1, .inr 7, .inr 9, .inl r22.2.1, .inl r22.2.2.1, .inl f6, .inl f7, .inl f8, .inl f9, .inl f10, .inl f11, .inl f12, .inl r22.2.2.2.1, .inl r22.2.2.2.2.1, .inl f15, .inl r22.2.2.2.2.2.1, .inl f17]) ⟨fun _ => rfl, fun _ => rfl, fun _ => rfl, fun _ => rfl, fun _ => rfl, fun _ => rfl, fun _ => rfl, fun _ => rfl, fun (h : zv_is (.inr 1000)) => (Nat.lt_irrefl 1000 h).elim, fun (h : zv_is (.inr 1000)) => (Nat.lt_irrefl 1000 h).elim, trivial⟩ ⟨fun _ => rfl, fun _ => rfl, fun _ => rfl, fun _ => rfl, fun _ => rfl, fun _ => rfl, fun _ => rfl, fun _ => rfl, fun _ => rfl, fun _ => rfl, fun _ => rfl, fun _ => rfl, fun _ => rfl, fun _ => rfl, fun _ => rfl, fun _ => rfl, fun _ => rfl, fun _ => rfl, trivial⟩ ?_
                  exact ih _ _ _ _ _ _ _ _ _ _ _ _ _ _ _ _ _ _ _ _ q h hK
                · rw [if_pos hc24] at h
                  refine zv_ild hB zd174_190 rfl rfl ?_
                  refine zv_goto hB zd174_192 rfl ?_
                  refine zv_putf hB zd174_204 rfl rfl (fun h => by cases h) rfl ?_
                  refine zv_iincw hB zd174_207 rfl rfl ?_
                  refine zv_goto hB zd174_210 rfl ?_
                  refine zv_wk hB (L' := [.inr 0, .inr 1, .inr 2, .inl x3, .inl x4, .inl x5, .inl x6, .inl (zi_w (x7 + 1)), .inr 1000, .inr 1000]) (F' := [.inl (zi_w ((zi_w ((zi_w (x6 * 6912)) + (zi_w ((zi_w ((zi_w ((g3 x7) * 12)) + (g1 x7))) * 24)))) + x3)), .inl f1, .inr 7, .inr 9, .inl r22.2.1, .inl r22.2.2.1, .inl f6, .inl f7, .inl f8, .inl f9, .inl f10, .inl f11, .inl f12, .inl r22.2.2.2.1, .inl r22.2.2.2.2.1, .inl f15, .inl r22.2.2.2.2.2.1, .inl f17]) ⟨fun _ => rfl, fun _ => rfl, fun _ => rfl, fun _ => rfl, fun _ => rfl, fun _ => rfl, fun _ => rfl, fun _ => rfl, fun (h : zv_is (.inr 1000)) => (Nat.lt_irrefl 1000 h).elim, fun (h : zv_is (.inr 1000)) => (Nat.lt_irrefl 1000 h).elim, trivial⟩ ⟨fun _ => rfl, fun _ => rfl, fun _ => rfl, fun _ => rfl, fun _ => rfl, fun _ => rfl, fun _ => rfl, fun _ => rfl, fun _ => rfl, fun _ => rfl, fun _ => rfl, fun _ => rfl, fun _ => rfl, fun _ => rfl, fun _ => rfl, fun _ => rfl, fun _ => rfl, fun _ => rfl, trivial⟩ ?_
                  exact ih _ _ _ _ _ _ _ _ _ _ _ _ _ _ _ _ _ _ _ _ q h hK
  have l0 : ∀ (n : Nat) (x3 : Int) (x4 : Int) (x5 : Int) (x6 : Int) (f0 : Int) (f4 : Int) (f5 : Int) (f6 : Int) (f7 : Int) (f13 : Int) (f14 : Int) (f16 : Int) (g0 : (Int → Int)) (g2 : (Int → Int)) (g4 : (Int → Int)) (g5 : (Int → Int)) (g6 : (Int → Int)) (g12 : (Int → Int)) (g18 : (Int → Int)) (q : Int × Int × Int × Int × Int × Int × Int × Int × (Int → Int) × (Int → Int) × (Int → Int) × (Int → Int) × (Int → Int) × (Int → Int) × (Int → Int)), zf_Pilot_followSecond_l0 x3 x4 x5 f1 f8 f9 f10 f11 f12 f15 f17 g1 g3 g7 g8 g9 g10 g11 g13 g14 g15 g16 g17 n x6 f0 f4 f5 f6 f7 f13 f14 f16 g0 g2 g4 g5 g6 g12 g18 = some q → (good 224 [.inr 1000, .inr 1000, .inr 1000, .inr 1000, .inr 1000, .inr 1000, .inr 1000, .inr 1000, .inr 1000, .inr 1000] [] [.inl q.1, .inl f1, .inr 7, .inr 9, .inl q.2.1, .inl q.2.2.1, .inl q.2.2.2.1, .inl q.2.2.2.2.1, .inl f8, .inl f9, .inl f10, .inl f11, .inl f12, .inl q.2.2.2.2.2.1, .inl q.2.2.2.2.2.2.1, .inl f15, .inl q.2.2.2.2.2.2.2.1, .inl f17] [q.2.2.2.2.2.2.2.2.1, g1, q.2.2.2.2.2.2.2.2.2.1, g3, q.2.2.2.2.2.2.2.2.2.2.1, q.2.2.2.2.2.2.2.2.2.2.2.1, q.2.2.2.2.2.2.2.2.2.2.2.2.1, g7, g8, g9, g10, g11, q.2.2.2.2.2.2.2.2.2.2.2.2.2.1, g13, g14, g15, g16, g17, q.2.2.2.2.2.2.2.2.2.2.2.2.2.2]) → good 3 [.inr 0, .inr 1, .inr 2, .inl x3, .inl x4, .inl x5, .inl x6, .inr 1000, .inr 1000, .inr 1000] [] [.inl f0, .inl f1, .inr 7, .inr 9, .inl f4, .inl f5, .inl f6, .inl f7, .inl f8, .inl f9, .inl f10, .inl f11, .inl f12, .inl f13, .inl f14, .inl f15, .inl f16, .inl f17] [g0, g1, g2, g3, g4, g5, g6, g7, g8, g9, g10, g11, g12, g13, g14, g15, g16, g17, g18] := by
    intro n
    induction n with
    | zero => intro x3 x4 x5 x6 f0 f4 f5 f6 f7 f13 f14 f16 g0 g2 g4 g5 g6 g12 g18 q h; exact absurd (show none = some q from h) (fun h => by cases h)
    | succ n ih =>
      intro x3 x4 x5 x6 f0 f4 f5 f6 f7 f13 f14 f16 g0 g2 g4 g5 g6 g12 g18 q h hK
      replace h : zf_Pilot_followSecond_l0_b x3 x4 x5 f1 f8 f9 f10 f11 f12 f15 f17 g1 g3 g7 g8 g9 g10 g11 g13 g14 g15 g16 g17 (zf_Pilot_followSecond_l0 x3 x4 x5 f1 f8 f9 f10 f11 f12 f15 f17 g1 g3 g7 g8 g9 g10 g11 g13 g14 g15 g16 g17 n) x6 f0 f4 f5 f6 f7 f13 f14 f16 g0 g2 g4 g5 g6 g12 g18 = some q := h
      unfold zf_Pilot_followSecond_l0_b at h
      refine zv_ild hB zd174_3 rfl rfl ?_
      refine zv_ild hB zd174_5 rfl rfl ?_
      refine zv_cgt hB zd174_7 rfl (fun hc1 => ?_) (fun hc1 => ?_)
      · rw [if_pos hc1] at h
        have hq := Option.some.inj h
        subst hq
        refine zv_wk hB (L' := [.inr 1000, .inr 1000, .inr 1000, .inr 1000, .inr 1000, .inr 1000, .inr 1000, .inr 1000, .inr 1000, .inr 1000]) (F' := [.inl f0, .inl f1, .inr 7, .inr 9, .inl f4, .inl f5, .inl f6, .inl f7, .inl f8, .inl f9, .inl f10, .inl f11, .inl f12, .inl f13, .inl f14, .inl f15, .inl f16, .inl f17]) ⟨fun (h : zv_is (.inr 1000)) => (Nat.lt_irrefl 1000 h).elim, fun (h : zv_is (.inr 1000)) => (Nat.lt_irrefl 1000 h).elim, fun (h : zv_is (.inr 1000)) => (Nat.lt_irrefl 1000 h).elim, fun (h : zv_is (.inr 1000)) => (Nat.lt_irrefl 1000 h).elim, fun (h : zv_is (.inr 1000)) => (Nat.lt_irrefl 1000 h).elim, fun (h : zv_is (.inr 1000)) => (Nat.lt_irrefl 1000 h).elim, fun (h : zv_is (.inr 1000)) => (Nat.lt_irrefl 1000 h).elim, fun (h : zv_is (.inr 1000)) => (Nat.lt_irrefl 1000 h).elim, fun (h : zv_is (.inr 1000)) => (Nat.lt_irrefl 1000 h).elim, fun (h : zv_is (.inr 1000)) => (Nat.lt_irrefl 1000 h).elim, trivial⟩ ⟨fun _ => rfl, fun _ => rfl, fun _ => rfl, fun _ => rfl, fun _ => rfl, fun _ => rfl, fun _ => rfl, fun _ => rfl, fun _ => rfl, fun _ => rfl, fun _ => rfl, fun _ => rfl, fun _ => rfl, fun _ => rfl, fun _ => rfl, fun _ => rfl, fun _ => rfl, fun _ => rfl, trivial⟩ ?_
        exact hK
      · rw [if_neg (Int.not_lt.mpr hc1)] at h
        refine zv_ald hB zd174_10 rfl rfl rfl ?_
        refine zv_getf hB zd174_11 rfl rfl (fun _ _ => ?_)
        refine zv_con hB zd174_14 rfl ?_
        refine zv_ceq hB zd174_15 rfl (fun hc2 => ?_) (fun hc2 => ?_)
        · rw [if_pos hc2] at h
          refine zv_ald hB zd174_31 rfl rfl rfl ?_
          refine zv_getr hB zd174_32 rfl ?_
          refine zv_con hB zd174_35 rfl ?_
          obtain ⟨r3, hr3, h⟩ := zi_bind h
          refine zv_cs hB (zv_emq (va2 := [.inr 3, .inl (-1)]) (F := [.inl f0, .inl f1, .inr 7, .inr 9, .inl f4, .inl f5, .inl f6, .inl f7, .inl f8, .inl f9, .inl f10, .inl f11, .inl f12, .inl f13, .inl f14, .inl f15, .inl f16, .inl f17]) (F' := [.inl f0, .inl f1, .inr 7, .inr 9, .inl f4, .inl f5, .inl f6, .inl f7, .inl f8, .inl f9, .inl f10, .inl f11, .inl f12, .inl f13, .inl f14, .inl f15, .inl f16, .inl f17]) (G := [g0, g1, g2, g3, g4, g5, g6, g7, g8, g9, g10, g11, g12, g13, g14, g15, g16, g17, g18]) (G' := [r3, g1, g2, g3, g4, g5, g6, g7, g8, g9, g10, g11, g12, g13, g14, g15, g16, g17, g18]) (ρ := [3]) (φ := []) (ψ := [0]) [none, none, none, none, none, none, none, none, none, none, none, none, none, none, none, none, none, none] [some 0, none, none, none, none, none, none, none, none, none, none, none, none, none, none, none, none, none, none] zyw_Arrays_fill_288 zyw_Pilot_followSecond zye_Pilot_followSecond (by decide +kernel) (zt_Arrays_fill_288 hr3) trivial ⟨rfl, trivial⟩ rfl rfl rfl rfl rfl rfl rfl) zd174_36 zxt78 rfl (by decide) (by decide) rfl ?_
          refine zv_con hB zd174_39 rfl ?_
          refine zv_ist hB zd174_40 rfl rfl rfl ?_
          obtain ⟨q26, hq26, h⟩ := zi_bind h
          refine l1 _ _ _ _ _ _ _ _ _ _ _ _ _ _ _ _ _ _ _ _ _ q26 hq26 ?_
          show good 213 [.inr 0, .inr 1, .inr 2, .inl x3, .inl x4, .inl x5, .inl x6, .inr 1000, .inr 1000, .inr 1000] [] [.inl q26.1, .inl f1, .inr 7, .inr 9, .inl q26.2.1, .inl q26.2.2.1, .inl f6, .inl f7, .inl f8, .inl f9, .inl f10, .inl f11, .inl f12, .inl q26.2.2.2.1, .inl q26.2.2.2.2.1, .inl f15, .inl q26.2.2.2.2.2.1, .inl f17] [q26.2.2.2.2.2.2.1, g1, q26.2.2.2.2.2.2.2.1, g3, q26.2.2.2.2.2.2.2.2.1, g5, g6, g7, g8, g9, g10, g11, q26.2.2.2.2.2.2.2.2.2, g13, g14, g15, g16, g17, g18]
          refine zv_ald hB zd174_213 rfl rfl rfl ?_
          refine zv_ald hB zd174_214 rfl rfl rfl ?_
          obtain ⟨r27, hr27, h⟩ := zi_bind h
          refine zv_cv hB (zv_emq (va2 := [.inr 0, .inr 1]) (F := [.inl q26.1, .inl f1, .inr 7, .inr 9, .inl q26.2.1, .inl q26.2.2.1, .inl f6, .inl f7, .inl f8, .inl f9, .inl f10, .inl f11, .inl f12, .inl q26.2.2.2.1, .inl q26.2.2.2.2.1, .inl f15, .inl q26.2.2.2.2.2.1, .inl f17]) (F' := [.inl q26.1, .inl f1, .inr 7, .inr 9, .inl q26.2.1, .inl q26.2.2.1, .inl r27.1, .inl r27.2.1, .inl f8, .inl f9, .inl f10, .inl f11, .inl f12, .inl r27.2.2.1, .inl q26.2.2.2.2.1, .inl f15, .inl q26.2.2.2.2.2.1, .inl f17]) (G := [q26.2.2.2.2.2.2.1, g1, q26.2.2.2.2.2.2.2.1, g3, q26.2.2.2.2.2.2.2.2.1, g5, g6, g7, g8, g9, g10, g11, q26.2.2.2.2.2.2.2.2.2, g13, g14, g15, g16, g17, g18]) (G' := [q26.2.2.2.2.2.2.1, g1, q26.2.2.2.2.2.2.2.1, g3, q26.2.2.2.2.2.2.2.2.1, r27.2.2.2.1, r27.2.2.2.2.1, g7, g8, g9, g10, g11, q26.2.2.2.2.2.2.2.2.2, g13, g14, g15, g16, g17, r27.2.2.2.2.2]) (ρ := [0, 1, 9, 10, 21, 11, 22, 7, 23]) (φ := [3, 6, 7, 2, 13]) (ψ := [5, 16, 6, 17, 18]) [none, none, some 3, some 0, none, none, some 1, some 2, none, none, none, none, none, some 4, none, none, none, none] [none, none, none, none, none, some 0, some 2, none, none, none, none, none, none, none, none, none, some 1, some 3, some 4] zyw_Pilot_turnOnward zyw_Pilot_followSecond zye_Pilot_followSecond (by decide +kernel) (zt_Pilot_turnOnward hr27) ⟨⟨_, rfl, fun _ => rfl⟩, ⟨_, rfl, fun _ => rfl⟩, ⟨_, rfl, fun _ => rfl⟩, ⟨_, rfl, fun _ => rfl⟩, ⟨_, rfl, fun _ => rfl⟩, trivial⟩ ⟨rfl, rfl, rfl, rfl, rfl, trivial⟩ rfl rfl rfl rfl rfl rfl rfl) zd174_215 zxt169 rfl (by decide) (by decide) rfl ?_
          refine zv_iincw hB zd174_218 rfl rfl ?_
          refine zv_goto hB zd174_221 rfl ?_
          exact ih _ _ _ _ _ _ _ _ _ _ _ _ _ _ _ _ _ _ _ q h hK
        · rw [if_neg hc2] at h
          refine zv_ild hB zd174_18 rfl rfl ?_
          refine zv_ald hB zd174_20 rfl rfl rfl ?_
          refine zv_getf hB zd174_21 rfl rfl (fun _ _ => ?_)
          refine zv_con hB zd174_24 rfl ?_
          refine zv_divw hB zd174_27 (by decide) ?_
          refine zv_cgt hB zd174_28 rfl (fun hc28 => ?_) (fun hc28 => ?_)
          · rw [if_pos hc28] at h
            have hq := Option.some.inj h
            subst hq
            refine zv_wk hB (L' := [.inr 1000, .inr 1000, .inr 1000, .inr 1000, .inr 1000, .inr 1000, .inr 1000, .inr 1000, .inr 1000, .inr 1000]) (F' := [.inl f0, .inl f1, .inr 7, .inr 9, .inl f4, .inl f5, .inl f6, .inl f7, .inl f8, .inl f9, .inl f10, .inl f11, .inl f12, .inl f13, .inl f14, .inl f15, .inl f16, .inl f17]) ⟨fun (h : zv_is (.inr 1000)) => (Nat.lt_irrefl 1000 h).elim, fun (h : zv_is (.inr 1000)) => (Nat.lt_irrefl 1000 h).elim, fun (h : zv_is (.inr 1000)) => (Nat.lt_irrefl 1000 h).elim, fun (h : zv_is (.inr 1000)) => (Nat.lt_irrefl 1000 h).elim, fun (h : zv_is (.inr 1000)) => (Nat.lt_irrefl 1000 h).elim, fun (h : zv_is (.inr 1000)) => (Nat.lt_irrefl 1000 h).elim, fun (h : zv_is (.inr 1000)) => (Nat.lt_irrefl 1000 h).elim, fun (h : zv_is (.inr 1000)) => (Nat.lt_irrefl 1000 h).elim, fun (h : zv_is (.inr 1000)) => (Nat.lt_irrefl 1000 h).elim, fun (h : zv_is (.inr 1000)) => (Nat.lt_irrefl 1000 h).elim, trivial⟩ ⟨fun _ => rfl, fun _ => rfl, fun _ => rfl, fun _ => rfl, fun _ => rfl, fun _ => rfl, fun _ => rfl, fun _ => rfl, fun _ => rfl, fun _ => rfl, fun _ => rfl, fun _ => rfl, fun _ => rfl, fun _ => rfl, fun _ => rfl, fun _ => rfl, fun _ => rfl, fun _ => rfl, trivial⟩ ?_
            exact hK
          · rw [if_neg (Int.not_lt.mpr hc28)] at h
            refine zv_ald hB zd174_31 rfl rfl rfl ?_
            refine zv_getr hB zd174_32 rfl ?_
            refine zv_con hB zd174_35 rfl ?_
            obtain ⟨r29, hr29, h⟩ := zi_bind h
            refine zv_cs hB (zv_emq (va2 := [.inr 3, .inl (-1)]) (F := [.inl f0, .inl f1, .inr 7, .inr 9, .inl f4, .inl f5, .inl f6, .inl f7, .inl f8, .inl f9, .inl f10, .inl f11, .inl f12, .inl f13, .inl f14, .inl f15, .inl f16, .inl f17]) (F' := [.inl f0, .inl f1, .inr 7, .inr 9, .inl f4, .inl f5, .inl f6, .inl f7, .inl f8, .inl f9, .inl f10, .inl f11, .inl f12, .inl f13, .inl f14, .inl f15, .inl f16, .inl f17]) (G := [g0, g1, g2, g3, g4, g5, g6, g7, g8, g9, g10, g11, g12, g13, g14, g15, g16, g17, g18]) (G' := [r29, g1, g2, g3, g4, g5, g6, g7, g8, g9, g10, g11, g12, g13, g14, g15, g16, g17, g18]) (ρ := [3]) (φ := []) (ψ := [0]) [none, none, none, none, none, none, none, none, none, none, none, none, none, none, none, none, none, none] [some 0, none, none, none, none, none, none, none, none, none, none, none, none, none, none, none, none, none, none] zyw_Arrays_fill_288 zyw_Pilot_followSecond zye_Pilot_followSecond (by decide +kernel) (zt_Arrays_fill_288 hr29) trivial ⟨rfl, trivial⟩ rfl rfl rfl rfl rfl rfl rfl) zd174_36 zxt78 rfl (by decide) (by decide) rfl ?_
            refine zv_con hB zd174_39 rfl ?_
            refine zv_ist hB zd174_40 rfl rfl rfl ?_
            obtain ⟨q30, hq30, h⟩ := zi_bind h
            refine l1 _ _ _ _ _ _ _ _ _ _ _ _ _ _ _ _ _ _ _ _ _ q30 hq30 ?_
            show good 213 [.inr 0, .inr 1, .inr 2, .inl x3, .inl x4, .inl x5, .inl x6, .inr 1000, .inr 1000, .inr 1000] [] [.inl q30.1, .inl f1, .inr 7, .inr 9, .inl q30.2.1, .inl q30.2.2.1, .inl f6, .inl f7, .inl f8, .inl f9, .inl f10, .inl f11, .inl f12, .inl q30.2.2.2.1, .inl q30.2.2.2.2.1, .inl f15, .inl q30.2.2.2.2.2.1, .inl f17] [q30.2.2.2.2.2.2.1, g1, q30.2.2.2.2.2.2.2.1, g3, q30.2.2.2.2.2.2.2.2.1, g5, g6, g7, g8, g9, g10, g11, q30.2.2.2.2.2.2.2.2.2, g13, g14, g15, g16, g17, g18]
            refine zv_ald hB zd174_213 rfl rfl rfl ?_
            refine zv_ald hB zd174_214 rfl rfl rfl ?_
            obtain ⟨r31, hr31, h⟩ := zi_bind h
            refine zv_cv hB (zv_emq (va2 := [.inr 0, .inr 1]) (F := [.inl q30.1, .inl f1, .inr 7, .inr 9, .inl q30.2.1, .inl q30.2.2.1, .inl f6, .inl f7, .inl f8, .inl f9, .inl f10, .inl f11, .inl f12, .inl q30.2.2.2.1, .inl q30.2.2.2.2.1, .inl f15, .inl q30.2.2.2.2.2.1, .inl f17]) (F' := [.inl q30.1, .inl f1, .inr 7, .inr 9, .inl q30.2.1, .inl q30.2.2.1, .inl r31.1, .inl r31.2.1, .inl f8, .inl f9, .inl f10, .inl f11, .inl f12, .inl r31.2.2.1, .inl q30.2.2.2.2.1, .inl f15, .inl q30.2.2.2.2.2.1, .inl f17]) (G := [q30.2.2.2.2.2.2.1, g1, q30.2.2.2.2.2.2.2.1, g3, q30.2.2.2.2.2.2.2.2.1, g5, g6, g7, g8, g9, g10, g11, q30.2.2.2.2.2.2.2.2.2, g13, g14, g15, g16, g17, g18]) (G' := [q30.2.2.2.2.2.2.1, g1, q30.2.2.2.2.2.2.2.1, g3, q30.2.2.2.2.2.2.2.2.1, r31.2.2.2.1, r31.2.2.2.2.1, g7, g8, g9, g10, g11, q30.2.2.2.2.2.2.2.2.2, g13, g14, g15, g16, g17, r31.2.2.2.2.2]) (ρ := [0, 1, 9, 10, 21, 11, 22, 7, 23]) (φ := [3, 6, 7, 2, 13]) (ψ := [5, 16, 6, 17, 18]) [none, none, some 3, some 0, none, none, some 1, some 2, none, none, none, none, none, some 4, none, none, none, none] [none, none, none, none, none, some 0, some 2, none, none, none, none, none, none, none, none, none, some 1, some 3, some 4] zyw_Pilot_turnOnward zyw_Pilot_followSecond zye_Pilot_followSecond (by decide +kernel) (zt_Pilot_turnOnward hr31) ⟨⟨_, rfl, fun _ => rfl⟩, ⟨_, rfl, fun _ => rfl⟩, ⟨_, rfl, fun _ => rfl⟩, ⟨_, rfl, fun _ => rfl⟩, ⟨_, rfl, fun _ => rfl⟩, trivial⟩ ⟨rfl, rfl, rfl, rfl, rfl, trivial⟩ rfl rfl rfl rfl rfl rfl rfl) zd174_215 zxt169 rfl (by decide) (by decide) rfl ?_
            refine zv_iincw hB zd174_218 rfl rfl ?_
            refine zv_goto hB zd174_221 rfl ?_
            exact ih _ _ _ _ _ _ _ _ _ _ _ _ _ _ _ _ _ _ _ q h hK
  unfold zf_Pilot_followSecond at h
  refine zv_con hB zd174_0 rfl ?_
  refine zv_ist hB zd174_1 rfl rfl rfl ?_
  obtain ⟨q32, hq32, h⟩ := zi_bind h
  refine l0 _ _ _ _ _ _ _ _ _ _ _ _ _ _ _ _ _ _ _ _ q32 hq32 ?_
  show good 224 [.inr 1000, .inr 1000, .inr 1000, .inr 1000, .inr 1000, .inr 1000, .inr 1000, .inr 1000, .inr 1000, .inr 1000] [] [.inl q32.1, .inl f1, .inr 7, .inr 9, .inl q32.2.1, .inl q32.2.2.1, .inl q32.2.2.2.1, .inl q32.2.2.2.2.1, .inl f8, .inl f9, .inl f10, .inl f11, .inl f12, .inl q32.2.2.2.2.2.1, .inl q32.2.2.2.2.2.2.1, .inl f15, .inl q32.2.2.2.2.2.2.2.1, .inl f17] [q32.2.2.2.2.2.2.2.2.1, g1, q32.2.2.2.2.2.2.2.2.2.1, g3, q32.2.2.2.2.2.2.2.2.2.2.1, q32.2.2.2.2.2.2.2.2.2.2.2.1, q32.2.2.2.2.2.2.2.2.2.2.2.2.1, g7, g8, g9, g10, g11, q32.2.2.2.2.2.2.2.2.2.2.2.2.2.1, g13, g14, g15, g16, g17, q32.2.2.2.2.2.2.2.2.2.2.2.2.2.2]
  have hw := Option.some.inj h
  subst hw
  exact hvret _ _ _ _ zd174_224 trivial ⟨rfl, rfl, rfl⟩
