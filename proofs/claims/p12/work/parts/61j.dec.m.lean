/-! 61j.dec, 61k.dec -/
section
/-! Methods as functions, and that they do what these do. -/
/-! Pilot_followSecond (LStarTales$View;LStarTales$Sea;III)V -/
-- names: 0 Pilot('arg', 0), 1 View('arg', 1), 2 Sea('arg', 2), 3 (0, 288)(0, 9, 11), 4 (0, 264)(0, 9, 6), 5 (0, 264)(0, 9, 8), 6 (0, 264)(0, 9, 5), 7 Law(1, 7, 1), 8 (0, 13)(7, 4, 12), 9 Sky(1, 7, 0), 10 (0, 24)(9, 1, 1), 11 (0, 24)(9, 1, 2), 12 (0, 24)(9, 1, 3), 13 (0, 14)(7, 4, 3), 14 (0, 14)(7, 4, 5), 15 (0, 14)(7, 4, 6), 16 (0, 200)(7, 4, 0), 17 (0, 40)(7, 4, 13), 18 (0, 200)(7, 4, 1), 19 (0, 12)(2, 2, 0), 20 (0, 264)(0, 9, 7), 21 (0, 24)(9, 1, 4), 22 (0, 24)(9, 1, 5), 23 (0, 24)(1, 7, 8)
-- fields: f0 = 0.best_, f1 = 0.legs_, f2 = 1.law_, f3 = 1.sky_, f4 = 1.x_, f5 = 1.y_, f6 = 9.hour_, f7 = 9.night_, f8 = 9.told_, f9 = 9.sightColumns_, f10 = 9.sightRows_, f11 = 9.clouds_, f12 = 7.tellsSeen_, f13 = 1.starsAsked_, f14 = 1.starsHold_, f15 = 7.clauses_, f16 = 7.answer_, f17 = 7.seenByPlace_; arrays: g0 = 3, g1 = 4, g2 = 5, g3 = 6, g4 = 8, g5 = 10, g6 = 11, g7 = 12, g8 = 13, g9 = 14, g10 = 15, g11 = 16, g12 = 17, g13 = 18, g14 = 19, g15 = 20, g16 = 21, g17 = 22, g18 = 23; out: [('f', 0), ('f', 4), ('f', 5), ('f', 6), ('f', 7), ('f', 13), ('f', 14), ('f', 16), ('g', 0), ('g', 2), ('g', 4), ('g', 5), ('g', 6), ('g', 12), ('g', 18)]
abbrev zy_Pilot_followSecond : zNL := (24, [(0, 9), (1, 7), (2, 2), (7, 4), (9, 1)], [(0, 9, 10, 0), (0, 9, 9, 1), (1, 7, 1, 2), (1, 7, 0, 3), (1, 7, 2, 4), (1, 7, 3, 5), (9, 1, 6, 6), (9, 1, 7, 7), (9, 1, 0, 8), (9, 1, 9, 9), (9, 1, 10, 10), (9, 1, 8, 11), (7, 4, 8, 12), (1, 7, 6, 13), (1, 7, 7, 14), (7, 4, 7, 15), (7, 4, 14, 16), (7, 4, 10, 17)], [(0, 9, 11, 3), (0, 9, 6, 4), (0, 9, 8, 5), (0, 9, 5, 6), (7, 4, 12, 8), (9, 1, 1, 10), (9, 1, 2, 11), (9, 1, 3, 12), (7, 4, 3, 13), (7, 4, 5, 14), (7, 4, 6, 15), (7, 4, 0, 16), (7, 4, 13, 17), (7, 4, 1, 18), (2, 2, 0, 19), (0, 9, 7, 20), (9, 1, 4, 21), (9, 1, 5, 22), (1, 7, 8, 23)], [(3, 0, 288, 0), (4, 0, 264, 1), (5, 0, 264, 2), (6, 0, 264, 3), (8, 0, 13, 4), (10, 0, 24, 5), (11, 0, 24, 6), (12, 0, 24, 7), (13, 0, 14, 8), (14, 0, 14, 9), (15, 0, 14, 10), (16, 0, 200, 11), (17, 0, 40, 12), (18, 0, 200, 13), (19, 0, 12, 14), (20, 0, 264, 15), (21, 0, 24, 16), (22, 0, 24, 17), (23, 0, 24, 18)])
theorem zyw_Pilot_followSecond : zv_wf zy_Pilot_followSecond = true := by decide +kernel
theorem zye_Pilot_followSecond : zv_ek2 zy_Pilot_followSecond = true := by decide +kernel
def zf_Pilot_followSecond_l1_b (x3 : Int) (x4 : Int) (x6 : Int) (f1 : Int) (f6 : Int) (f7 : Int) (f8 : Int) (f9 : Int) (f10 : Int) (f11 : Int) (f12 : Int) (f15 : Int) (f17 : Int) (g1 : (Int → Int)) (g3 : (Int → Int)) (g5 : (Int → Int)) (g6 : (Int → Int)) (g7 : (Int → Int)) (g8 : (Int → Int)) (g9 : (Int → Int)) (g10 : (Int → Int)) (g11 : (Int → Int)) (g13 : (Int → Int)) (g14 : (Int → Int)) (g15 : (Int → Int)) (rec : Int → Int → Int → Int → Int → Int → Int → (Int → Int) → (Int → Int) → (Int → Int) → (Int → Int) → Option (Int × Int × Int × Int × Int × Int × (Int → Int) × (Int → Int) × (Int → Int) × (Int → Int))) (x7 : Int) (f0 : Int) (f4 : Int) (f5 : Int) (f13 : Int) (f14 : Int) (f16 : Int) (g0 : (Int → Int)) (g2 : (Int → Int)) (g4 : (Int → Int)) (g12 : (Int → Int)) : Option (Int × Int × Int × Int × Int × Int × (Int → Int) × (Int → Int) × (Int → Int) × (Int → Int)) := if x7 < f1 then (cond (zi_ix x7 264) (if (g1 x7) < x6 then (if (g1 x7) = (zi_w (x6 - 1)) then (cond (zi_ix (g15 x7) 288) (if (g0 (g15 x7)) = (-1) then ((zf_Pilot_step (g15 x7) x3 f4 f5 f6 f7 f8 f9 f10 f11 f12 f13 f14 f15 f16 f17 g4 g5 g6 g7 g8 g9 g10 g11 g12 g13 g14).bind fun r22 => (if ((zv_up g2 x7 ((zv_up g0 (g15 x7) r22.1) (g15 x7))) x7) = x4 then (if f0 = (-1) then (rec (zi_w (x7 + 1)) (zi_w ((zi_w ((zi_w (x6 * 6912)) + (zi_w ((zi_w ((zi_w ((g3 x7) * 12)) + (g1 x7))) * 24)))) + x3)) r22.2.1 r22.2.2.1 r22.2.2.2.1 r22.2.2.2.2.1 r22.2.2.2.2.2.1 (zv_up g0 (g15 x7) r22.1) (zv_up g2 x7 ((zv_up g0 (g15 x7) r22.1) (g15 x7))) r22.2.2.2.2.2.2.1 r22.2.2.2.2.2.2.2) else ((zf_Math_min f0 (zi_w ((zi_w ((zi_w (x6 * 6912)) + (zi_w ((zi_w ((zi_w ((g3 x7) * 12)) + (g1 x7))) * 24)))) + x3))).bind fun r25 => (rec (zi_w (x7 + 1)) r25 r22.2.1 r22.2.2.1 r22.2.2.2.1 r22.2.2.2.2.1 r22.2.2.2.2.2.1 (zv_up g0 (g15 x7) r22.1) (zv_up g2 x7 ((zv_up g0 (g15 x7) r22.1) (g15 x7))) r22.2.2.2.2.2.2.1 r22.2.2.2.2.2.2.2))) else (rec (zi_w (x7 + 1)) f0 r22.2.1 r22.2.2.1 r22.2.2.2.1 r22.2.2.2.2.1 r22.2.2.2.2.2.1 (zv_up g0 (g15 x7) r22.1) (zv_up g2 x7 ((zv_up g0 (g15 x7) r22.1) (g15 x7))) r22.2.2.2.2.2.2.1 r22.2.2.2.2.2.2.2))) else (if ((zv_up g2 x7 (g0 (g15 x7))) x7) = x4 then (if f0 = (-1) then (rec (zi_w (x7 + 1)) (zi_w ((zi_w ((zi_w (x6 * 6912)) + (zi_w ((zi_w ((zi_w ((g3 x7) * 12)) + (g1 x7))) * 24)))) + x3)) f4 f5 f13 f14 f16 g0 (zv_up g2 x7 (g0 (g15 x7))) g4 g12) else ((zf_Math_min f0 (zi_w ((zi_w ((zi_w (x6 * 6912)) + (zi_w ((zi_w ((zi_w ((g3 x7) * 12)) + (g1 x7))) * 24)))) + x3))).bind fun r21 => (rec (zi_w (x7 + 1)) r21 f4 f5 f13 f14 f16 g0 (zv_up g2 x7 (g0 (g15 x7))) g4 g12))) else (rec (zi_w (x7 + 1)) f0 f4 f5 f13 f14 f16 g0 (zv_up g2 x7 (g0 (g15 x7))) g4 g12))) none) else (cond (zi_ix (g2 x7) 288) (if (g0 (g2 x7)) = (-1) then ((zf_Pilot_step (g2 x7) x3 f4 f5 f6 f7 f8 f9 f10 f11 f12 f13 f14 f15 f16 f17 g4 g5 g6 g7 g8 g9 g10 g11 g12 g13 g14).bind fun r13 => (if ((zv_up g2 x7 ((zv_up g0 (g2 x7) r13.1) (g2 x7))) x7) = x4 then (if f0 = (-1) then (rec (zi_w (x7 + 1)) (zi_w ((zi_w ((zi_w (x6 * 6912)) + (zi_w ((zi_w ((zi_w ((g3 x7) * 12)) + (g1 x7))) * 24)))) + x3)) r13.2.1 r13.2.2.1 r13.2.2.2.1 r13.2.2.2.2.1 r13.2.2.2.2.2.1 (zv_up g0 (g2 x7) r13.1) (zv_up g2 x7 ((zv_up g0 (g2 x7) r13.1) (g2 x7))) r13.2.2.2.2.2.2.1 r13.2.2.2.2.2.2.2) else ((zf_Math_min f0 (zi_w ((zi_w ((zi_w (x6 * 6912)) + (zi_w ((zi_w ((zi_w ((g3 x7) * 12)) + (g1 x7))) * 24)))) + x3))).bind fun r16 => (rec (zi_w (x7 + 1)) r16 r13.2.1 r13.2.2.1 r13.2.2.2.1 r13.2.2.2.2.1 r13.2.2.2.2.2.1 (zv_up g0 (g2 x7) r13.1) (zv_up g2 x7 ((zv_up g0 (g2 x7) r13.1) (g2 x7))) r13.2.2.2.2.2.2.1 r13.2.2.2.2.2.2.2))) else (rec (zi_w (x7 + 1)) f0 r13.2.1 r13.2.2.1 r13.2.2.2.1 r13.2.2.2.2.1 r13.2.2.2.2.2.1 (zv_up g0 (g2 x7) r13.1) (zv_up g2 x7 ((zv_up g0 (g2 x7) r13.1) (g2 x7))) r13.2.2.2.2.2.2.1 r13.2.2.2.2.2.2.2))) else (if ((zv_up g2 x7 (g0 (g2 x7))) x7) = x4 then (if f0 = (-1) then (rec (zi_w (x7 + 1)) (zi_w ((zi_w ((zi_w (x6 * 6912)) + (zi_w ((zi_w ((zi_w ((g3 x7) * 12)) + (g1 x7))) * 24)))) + x3)) f4 f5 f13 f14 f16 g0 (zv_up g2 x7 (g0 (g2 x7))) g4 g12) else ((zf_Math_min f0 (zi_w ((zi_w ((zi_w (x6 * 6912)) + (zi_w ((zi_w ((zi_w ((g3 x7) * 12)) + (g1 x7))) * 24)))) + x3))).bind fun r12 => (rec (zi_w (x7 + 1)) r12 f4 f5 f13 f14 f16 g0 (zv_up g2 x7 (g0 (g2 x7))) g4 g12))) else (rec (zi_w (x7 + 1)) f0 f4 f5 f13 f14 f16 g0 (zv_up g2 x7 (g0 (g2 x7))) g4 g12))) none)) else (some (f0, f4, f5, f13, f14, f16, g0, g2, g4, g12))) none) else (some (f0, f4, f5, f13, f14, f16, g0, g2, g4, g12))
def zf_Pilot_followSecond_l1 (x3 : Int) (x4 : Int) (x6 : Int) (f1 : Int) (f6 : Int) (f7 : Int) (f8 : Int) (f9 : Int) (f10 : Int) (f11 : Int) (f12 : Int) (f15 : Int) (f17 : Int) (g1 : (Int → Int)) (g3 : (Int → Int)) (g5 : (Int → Int)) (g6 : (Int → Int)) (g7 : (Int → Int)) (g8 : (Int → Int)) (g9 : (Int → Int)) (g10 : (Int → Int)) (g11 : (Int → Int)) (g13 : (Int → Int)) (g14 : (Int → Int)) (g15 : (Int → Int)) : Nat → Int → Int → Int → Int → Int → Int → Int → (Int → Int) → (Int → Int) → (Int → Int) → (Int → Int) → Option (Int × Int × Int × Int × Int × Int × (Int → Int) × (Int → Int) × (Int → Int) × (Int → Int))
  | 0, _, _, _, _, _, _, _, _, _, _, _ => none
  | n + 1, x7, f0, f4, f5, f13, f14, f16, g0, g2, g4, g12 => zf_Pilot_followSecond_l1_b x3 x4 x6 f1 f6 f7 f8 f9 f10 f11 f12 f15 f17 g1 g3 g5 g6 g7 g8 g9 g10 g11 g13 g14 g15 (zf_Pilot_followSecond_l1 x3 x4 x6 f1 f6 f7 f8 f9 f10 f11 f12 f15 f17 g1 g3 g5 g6 g7 g8 g9 g10 g11 g13 g14 g15 n) x7 f0 f4 f5 f13 f14 f16 g0 g2 g4 g12
def zf_Pilot_followSecond_l0_b (x3 : Int) (x4 : Int) (x5 : Int) (f1 : Int) (f8 : Int) (f9 : Int) (f10 : Int) (f11 : Int) (f12 : Int) (f15 : Int) (f17 : Int) (g1 : (Int → Int)) (g3 : (Int → Int)) (g7 : (Int → Int)) (g8 : (Int → Int)) (g9 : (Int → Int)) (g10 : (Int → Int)) (g11 : (Int → Int)) (g13 : (Int → Int)) (g14 : (Int → Int)) (g15 : (Int → Int)) (g16 : (Int → Int)) (g17 : (Int → Int)) (rec : Int → Int → Int → Int → Int → Int → Int → Int → Int → (Int → Int) → (Int → Int) → (Int → Int) → (Int → Int) → (Int → Int) → (Int → Int) → (Int → Int) → Option (Int × Int × Int × Int × Int × Int × Int × Int × (Int → Int) × (Int → Int) × (Int → Int) × (Int → Int) × (Int → Int) × (Int → Int) × (Int → Int))) (x6 : Int) (f0 : Int) (f4 : Int) (f5 : Int) (f6 : Int) (f7 : Int) (f13 : Int) (f14 : Int) (f16 : Int) (g0 : (Int → Int)) (g2 : (Int → Int)) (g4 : (Int → Int)) (g5 : (Int → Int)) (g6 : (Int → Int)) (g12 : (Int → Int)) (g18 : (Int → Int)) : Option (Int × Int × Int × Int × Int × Int × Int × Int × (Int → Int) × (Int → Int) × (Int → Int) × (Int → Int) × (Int → Int) × (Int → Int) × (Int → Int)) := if x5 < x6 then (some (f0, f4, f5, f6, f7, f13, f14, f16, g0, g2, g4, g5, g6, g12, g18)) else (if f0 = (-1) then ((zf_Arrays_fill_288 (-1) g0).bind fun r3 => ((zf_Pilot_followSecond_l1 x3 x4 x6 f1 f6 f7 f8 f9 f10 f11 f12 f15 f17 g1 g3 g5 g6 g7 g8 g9 g10 g11 g13 g14 g15 zi_fu 0 f0 f4 f5 f13 f14 f16 r3 g2 g4 g12).bind fun q26 => ((zf_Pilot_turnOnward f6 f7 q26.2.2.2.1 g5 g16 g6 g17 g18).bind fun r27 => (rec (zi_w (x6 + 1)) q26.1 q26.2.1 q26.2.2.1 r27.1 r27.2.1 r27.2.2.1 q26.2.2.2.2.1 q26.2.2.2.2.2.1 q26.2.2.2.2.2.2.1 q26.2.2.2.2.2.2.2.1 q26.2.2.2.2.2.2.2.2.1 r27.2.2.2.1 r27.2.2.2.2.1 q26.2.2.2.2.2.2.2.2.2 r27.2.2.2.2.2)))) else (if (zi_div f0 6912) < x6 then (some (f0, f4, f5, f6, f7, f13, f14, f16, g0, g2, g4, g5, g6, g12, g18)) else ((zf_Arrays_fill_288 (-1) g0).bind fun r29 => ((zf_Pilot_followSecond_l1 x3 x4 x6 f1 f6 f7 f8 f9 f10 f11 f12 f15 f17 g1 g3 g5 g6 g7 g8 g9 g10 g11 g13 g14 g15 zi_fu 0 f0 f4 f5 f13 f14 f16 r29 g2 g4 g12).bind fun q30 => ((zf_Pilot_turnOnward f6 f7 q30.2.2.2.1 g5 g16 g6 g17 g18).bind fun r31 => (rec (zi_w (x6 + 1)) q30.1 q30.2.1 q30.2.2.1 r31.1 r31.2.1 r31.2.2.1 q30.2.2.2.2.1 q30.2.2.2.2.2.1 q30.2.2.2.2.2.2.1 q30.2.2.2.2.2.2.2.1 q30.2.2.2.2.2.2.2.2.1 r31.2.2.2.1 r31.2.2.2.2.1 q30.2.2.2.2.2.2.2.2.2 r31.2.2.2.2.2))))))
def zf_Pilot_followSecond_l0 (x3 : Int) (x4 : Int) (x5 : Int) (f1 : Int) (f8 : Int) (f9 : Int) (f10 : Int) (f11 : Int) (f12 : Int) (f15 : Int) (f17 : Int) (g1 : (Int → Int)) (g3 : (Int → Int)) (g7 : (Int → Int)) (g8 : (Int → Int)) (g9 : (Int → Int)) (g10 : (Int → Int)) (g11 : (Int → Int)) (g13 : (Int → Int)) (g14 : (Int → Int)) (g15 : (Int → Int)) (g16 : (Int → Int)) (g17 : (Int → Int)) : Nat → Int → Int → Int → Int → Int → Int → Int → Int → Int → (Int → Int) → (Int → Int) → (Int → Int) → (Int → Int) → (Int → Int) → (Int → Int) → (Int → Int) → Option (Int × Int × Int × Int × Int × Int × Int × Int × (Int → Int) × (Int → Int) × (Int → Int) × (Int → Int) × (Int → Int) × (Int → Int) × (Int → Int))
  | 0, _, _, _, _, _, _, _, _, _, _, _, _, _, _, _, _ => none
  | n + 1, x6, f0, f4, f5, f6, f7, f13, f14, f16, g0, g2, g4, g5, g6, g12, g18 => zf_Pilot_followSecond_l0_b x3 x4 x5 f1 f8 f9 f10 f11 f12 f15 f17 g1 g3 g7 g8 g9 g10 g11 g13 g14 g15 g16 g17 (zf_Pilot_followSecond_l0 x3 x4 x5 f1 f8 f9 f10 f11 f12 f15 f17 g1 g3 g7 g8 g9 g10 g11 g13 g14 g15 g16 g17 n) x6 f0 f4 f5 f6 f7 f13 f14 f16 g0 g2 g4 g5 g6 g12 g18
def zf_Pilot_followSecond (x3 : Int) (x4 : Int) (x5 : Int) (f0 : Int) (f1 : Int) (f4 : Int) (f5 : Int) (f6 : Int) (f7 : Int) (f8 : Int) (f9 : Int) (f10 : Int) (f11 : Int) (f12 : Int) (f13 : Int) (f14 : Int) (f15 : Int) (f16 : Int) (f17 : Int) (g0 : (Int → Int)) (g1 : (Int → Int)) (g2 : (Int → Int)) (g3 : (Int → Int)) (g4 : (Int → Int)) (g5 : (Int → Int)) (g6 : (Int → Int)) (g7 : (Int → Int)) (g8 : (Int → Int)) (g9 : (Int → Int)) (g10 : (Int → Int)) (g11 : (Int → Int)) (g12 : (Int → Int)) (g13 : (Int → Int)) (g14 : (Int → Int)) (g15 : (Int → Int)) (g16 : (Int → Int)) (g17 : (Int → Int)) (g18 : (Int → Int)) : Option (Int × Int × Int × Int × Int × Int × Int × Int × (Int → Int) × (Int → Int) × (Int → Int) × (Int → Int) × (Int → Int) × (Int → Int) × (Int → Int)) := (zf_Pilot_followSecond_l0 x3 x4 x5 f1 f8 f9 f10 f11 f12 f15 f17 g1 g3 g7 g8 g9 g10 g11 g13 g14 g15 g16 g17 zi_fu 1 f0 f4 f5 f6 f7 f13 f14 f16 g0 g2 g4 g5 g6 g12 g18).bind fun q32 => (some (q32.1, q32.2.1, q32.2.2.1, q32.2.2.2.1, q32.2.2.2.2.1, q32.2.2.2.2.2.1, q32.2.2.2.2.2.2.1, q32.2.2.2.2.2.2.2.1, q32.2.2.2.2.2.2.2.2.1, q32.2.2.2.2.2.2.2.2.2.1, q32.2.2.2.2.2.2.2.2.2.2.1, q32.2.2.2.2.2.2.2.2.2.2.2.1, q32.2.2.2.2.2.2.2.2.2.2.2.2.1, q32.2.2.2.2.2.2.2.2.2.2.2.2.2.1, q32.2.2.2.2.2.2.2.2.2.2.2.2.2.2))
theorem zd174_0 : decode zxm174.2.1 0 = .ok (.iconst 1, 1) := by decide +kernel
theorem zd174_1 : decode zxm174.2.1 1 = .ok (.istore 6, 2) := by decide +kernel
theorem zd174_3 : decode zxm174.2.1 3 = .ok (.iload 6, 2) := by decide +kernel
theorem zd174_5 : decode zxm174.2.1 5 = .ok (.iload 5, 2) := by decide +kernel
theorem zd174_7 : decode zxm174.2.1 7 = .ok (.if_icmp .gt 217, 3) := by decide +kernel
theorem zd174_10 : decode zxm174.2.1 10 = .ok (.aload_n 0, 1) := by decide +kernel
theorem zd174_11 : decode zxm174.2.1 11 = .ok (.getfield 43, 3) := by decide +kernel
theorem zd174_14 : decode zxm174.2.1 14 = .ok (.iconst (-1), 1) := by decide +kernel
theorem zd174_15 : decode zxm174.2.1 15 = .ok (.if_icmp .eq 16, 3) := by decide +kernel
theorem zd174_18 : decode zxm174.2.1 18 = .ok (.iload 6, 2) := by decide +kernel
theorem zd174_20 : decode zxm174.2.1 20 = .ok (.aload_n 0, 1) := by decide +kernel
theorem zd174_21 : decode zxm174.2.1 21 = .ok (.getfield 43, 3) := by decide +kernel
theorem zd174_24 : decode zxm174.2.1 24 = .ok (.sipush 6912, 3) := by decide +kernel
theorem zd174_27 : decode zxm174.2.1 27 = .ok (.idiv, 1) := by decide +kernel
theorem zd174_28 : decode zxm174.2.1 28 = .ok (.if_icmp .gt 196, 3) := by decide +kernel
theorem zd174_31 : decode zxm174.2.1 31 = .ok (.aload_n 0, 1) := by decide +kernel
theorem zd174_32 : decode zxm174.2.1 32 = .ok (.getfield 46, 3) := by decide +kernel
theorem zd174_35 : decode zxm174.2.1 35 = .ok (.iconst (-1), 1) := by decide +kernel
theorem zd174_36 : decode zxm174.2.1 36 = .ok (.invokestatic 110, 3) := by decide +kernel
theorem zd174_39 : decode zxm174.2.1 39 = .ok (.iconst 0, 1) := by decide +kernel
theorem zd174_40 : decode zxm174.2.1 40 = .ok (.istore 7, 2) := by decide +kernel
theorem zd174_42 : decode zxm174.2.1 42 = .ok (.iload 7, 2) := by decide +kernel
theorem zd174_44 : decode zxm174.2.1 44 = .ok (.aload_n 0, 1) := by decide +kernel
theorem zd174_45 : decode zxm174.2.1 45 = .ok (.getfield 40, 3) := by decide +kernel
theorem zd174_48 : decode zxm174.2.1 48 = .ok (.if_icmp .ge 165, 3) := by decide +kernel
theorem zd174_51 : decode zxm174.2.1 51 = .ok (.aload_n 0, 1) := by decide +kernel
theorem zd174_52 : decode zxm174.2.1 52 = .ok (.getfield 31, 3) := by decide +kernel
theorem zd174_55 : decode zxm174.2.1 55 = .ok (.iload 7, 2) := by decide +kernel
theorem zd174_57 : decode zxm174.2.1 57 = .ok (.iaload, 1) := by decide +kernel
theorem zd174_58 : decode zxm174.2.1 58 = .ok (.iload 6, 2) := by decide +kernel
theorem zd174_60 : decode zxm174.2.1 60 = .ok (.if_icmp .ge 153, 3) := by decide +kernel
theorem zd174_63 : decode zxm174.2.1 63 = .ok (.aload_n 0, 1) := by decide +kernel
theorem zd174_64 : decode zxm174.2.1 64 = .ok (.getfield 31, 3) := by decide +kernel
theorem zd174_67 : decode zxm174.2.1 67 = .ok (.iload 7, 2) := by decide +kernel
theorem zd174_69 : decode zxm174.2.1 69 = .ok (.iaload, 1) := by decide +kernel
theorem zd174_70 : decode zxm174.2.1 70 = .ok (.iload 6, 2) := by decide +kernel
theorem zd174_72 : decode zxm174.2.1 72 = .ok (.iconst 1, 1) := by decide +kernel
theorem zd174_73 : decode zxm174.2.1 73 = .ok (.isub, 1) := by decide +kernel
theorem zd174_74 : decode zxm174.2.1 74 = .ok (.if_icmp .ne 13, 3) := by decide +kernel
theorem zd174_77 : decode zxm174.2.1 77 = .ok (.aload_n 0, 1) := by decide +kernel
theorem zd174_78 : decode zxm174.2.1 78 = .ok (.getfield 34, 3) := by decide +kernel
theorem zd174_81 : decode zxm174.2.1 81 = .ok (.iload 7, 2) := by decide +kernel
theorem zd174_83 : decode zxm174.2.1 83 = .ok (.iaload, 1) := by decide +kernel
theorem zd174_84 : decode zxm174.2.1 84 = .ok (.goto 10, 3) := by decide +kernel
theorem zd174_87 : decode zxm174.2.1 87 = .ok (.aload_n 0, 1) := by decide +kernel
theorem zd174_88 : decode zxm174.2.1 88 = .ok (.getfield 37, 3) := by decide +kernel
theorem zd174_91 : decode zxm174.2.1 91 = .ok (.iload 7, 2) := by decide +kernel
theorem zd174_93 : decode zxm174.2.1 93 = .ok (.iaload, 1) := by decide +kernel
theorem zd174_94 : decode zxm174.2.1 94 = .ok (.istore 8, 2) := by decide +kernel
theorem zd174_96 : decode zxm174.2.1 96 = .ok (.aload_n 0, 1) := by decide +kernel
theorem zd174_97 : decode zxm174.2.1 97 = .ok (.getfield 46, 3) := by decide +kernel
theorem zd174_100 : decode zxm174.2.1 100 = .ok (.iload 8, 2) := by decide +kernel
theorem zd174_102 : decode zxm174.2.1 102 = .ok (.iaload, 1) := by decide +kernel
theorem zd174_103 : decode zxm174.2.1 103 = .ok (.iconst (-1), 1) := by decide +kernel
theorem zd174_104 : decode zxm174.2.1 104 = .ok (.if_icmp .ne 19, 3) := by decide +kernel
theorem zd174_107 : decode zxm174.2.1 107 = .ok (.aload_n 0, 1) := by decide +kernel
theorem zd174_108 : decode zxm174.2.1 108 = .ok (.getfield 46, 3) := by decide +kernel
theorem zd174_111 : decode zxm174.2.1 111 = .ok (.iload 8, 2) := by decide +kernel
theorem zd174_113 : decode zxm174.2.1 113 = .ok (.aload_n 0, 1) := by decide +kernel
theorem zd174_114 : decode zxm174.2.1 114 = .ok (.aload_n 1, 1) := by decide +kernel
theorem zd174_115 : decode zxm174.2.1 115 = .ok (.aload_n 2, 1) := by decide +kernel
theorem zd174_116 : decode zxm174.2.1 116 = .ok (.iload 8, 2) := by decide +kernel
theorem zd174_118 : decode zxm174.2.1 118 = .ok (.iload_n 3, 1) := by decide +kernel
theorem zd174_119 : decode zxm174.2.1 119 = .ok (.invokevirtual 150, 3) := by decide +kernel
theorem zd174_122 : decode zxm174.2.1 122 = .ok (.iastore, 1) := by decide +kernel
theorem zd174_123 : decode zxm174.2.1 123 = .ok (.aload_n 0, 1) := by decide +kernel
theorem zd174_124 : decode zxm174.2.1 124 = .ok (.getfield 37, 3) := by decide +kernel
theorem zd174_127 : decode zxm174.2.1 127 = .ok (.iload 7, 2) := by decide +kernel
theorem zd174_129 : decode zxm174.2.1 129 = .ok (.aload_n 0, 1) := by decide +kernel
theorem zd174_130 : decode zxm174.2.1 130 = .ok (.getfield 46, 3) := by decide +kernel
theorem zd174_133 : decode zxm174.2.1 133 = .ok (.iload 8, 2) := by decide +kernel
theorem zd174_135 : decode zxm174.2.1 135 = .ok (.iaload, 1) := by decide +kernel
theorem zd174_136 : decode zxm174.2.1 136 = .ok (.iastore, 1) := by decide +kernel
theorem zd174_137 : decode zxm174.2.1 137 = .ok (.aload_n 0, 1) := by decide +kernel
theorem zd174_138 : decode zxm174.2.1 138 = .ok (.getfield 37, 3) := by decide +kernel
theorem zd174_141 : decode zxm174.2.1 141 = .ok (.iload 7, 2) := by decide +kernel
theorem zd174_143 : decode zxm174.2.1 143 = .ok (.iaload, 1) := by decide +kernel
theorem zd174_144 : decode zxm174.2.1 144 = .ok (.iload 4, 2) := by decide +kernel
theorem zd174_146 : decode zxm174.2.1 146 = .ok (.if_icmp .ne 61, 3) := by decide +kernel
theorem zd174_149 : decode zxm174.2.1 149 = .ok (.iload 6, 2) := by decide +kernel
theorem zd174_151 : decode zxm174.2.1 151 = .ok (.sipush 6912, 3) := by decide +kernel
theorem zd174_154 : decode zxm174.2.1 154 = .ok (.imul, 1) := by decide +kernel
theorem zd174_155 : decode zxm174.2.1 155 = .ok (.aload_n 0, 1) := by decide +kernel
theorem zd174_156 : decode zxm174.2.1 156 = .ok (.getfield 28, 3) := by decide +kernel
theorem zd174_159 : decode zxm174.2.1 159 = .ok (.iload 7, 2) := by decide +kernel
theorem zd174_161 : decode zxm174.2.1 161 = .ok (.iaload, 1) := by decide +kernel
theorem zd174_162 : decode zxm174.2.1 162 = .ok (.bipush 12, 2) := by decide +kernel
theorem zd174_164 : decode zxm174.2.1 164 = .ok (.imul, 1) := by decide +kernel
theorem zd174_165 : decode zxm174.2.1 165 = .ok (.aload_n 0, 1) := by decide +kernel
theorem zd174_166 : decode zxm174.2.1 166 = .ok (.getfield 31, 3) := by decide +kernel
theorem zd174_169 : decode zxm174.2.1 169 = .ok (.iload 7, 2) := by decide +kernel
theorem zd174_171 : decode zxm174.2.1 171 = .ok (.iaload, 1) := by decide +kernel
theorem zd174_172 : decode zxm174.2.1 172 = .ok (.iadd, 1) := by decide +kernel
theorem zd174_173 : decode zxm174.2.1 173 = .ok (.bipush 24, 2) := by decide +kernel
theorem zd174_175 : decode zxm174.2.1 175 = .ok (.imul, 1) := by decide +kernel
theorem zd174_176 : decode zxm174.2.1 176 = .ok (.iadd, 1) := by decide +kernel
theorem zd174_177 : decode zxm174.2.1 177 = .ok (.iload_n 3, 1) := by decide +kernel
theorem zd174_178 : decode zxm174.2.1 178 = .ok (.iadd, 1) := by decide +kernel
theorem zd174_179 : decode zxm174.2.1 179 = .ok (.istore 9, 2) := by decide +kernel
theorem zd174_181 : decode zxm174.2.1 181 = .ok (.aload_n 0, 1) := by decide +kernel
theorem zd174_182 : decode zxm174.2.1 182 = .ok (.aload_n 0, 1) := by decide +kernel
theorem zd174_183 : decode zxm174.2.1 183 = .ok (.getfield 43, 3) := by decide +kernel
theorem zd174_186 : decode zxm174.2.1 186 = .ok (.iconst (-1), 1) := by decide +kernel
theorem zd174_187 : decode zxm174.2.1 187 = .ok (.if_icmp .ne 8, 3) := by decide +kernel
theorem zd174_190 : decode zxm174.2.1 190 = .ok (.iload 9, 2) := by decide +kernel
theorem zd174_192 : decode zxm174.2.1 192 = .ok (.goto 12, 3) := by decide +kernel
theorem zd174_195 : decode zxm174.2.1 195 = .ok (.aload_n 0, 1) := by decide +kernel
theorem zd174_196 : decode zxm174.2.1 196 = .ok (.getfield 43, 3) := by decide +kernel
theorem zd174_199 : decode zxm174.2.1 199 = .ok (.iload 9, 2) := by decide +kernel
theorem zd174_201 : decode zxm174.2.1 201 = .ok (.invokestatic 90, 3) := by decide +kernel
theorem zd174_204 : decode zxm174.2.1 204 = .ok (.putfield 43, 3) := by decide +kernel
theorem zd174_207 : decode zxm174.2.1 207 = .ok (.iinc 7 1, 3) := by decide +kernel
theorem zd174_210 : decode zxm174.2.1 210 = .ok (.goto (-168), 3) := by decide +kernel
theorem zd174_213 : decode zxm174.2.1 213 = .ok (.aload_n 0, 1) := by decide +kernel
theorem zd174_214 : decode zxm174.2.1 214 = .ok (.aload_n 1, 1) := by decide +kernel
theorem zd174_215 : decode zxm174.2.1 215 = .ok (.invokevirtual 123, 3) := by decide +kernel
theorem zd174_218 : decode zxm174.2.1 218 = .ok (.iinc 6 1, 3) := by decide +kernel
theorem zd174_221 : decode zxm174.2.1 221 = .ok (.goto (-218), 3) := by decide +kernel
theorem zd174_224 : decode zxm174.2.1 224 = .ok (.return_, 1) := by decide +kernel
theorem zt_Pilot_followSecond {x3 : Int} {x4 : Int} {x5 : Int} {f0 : Int} {f1 : Int} {f4 : Int} {f5 : Int} {f6 : Int} {f7 : Int} {f8 : Int} {f9 : Int} {f10 : Int} {f11 : Int} {f12 : Int} {f13 : Int} {f14 : Int} {f15 : Int} {f16 : Int} {f17 : Int} {g0 : (Int → Int)} {g1 : (Int → Int)} {g2 : (Int → Int)} {g3 : (Int → Int)} {g4 : (Int → Int)} {g5 : (Int → Int)} {g6 : (Int → Int)} {g7 : (Int → Int)} {g8 : (Int → Int)} {g9 : (Int → Int)} {g10 : (Int → Int)} {g11 : (Int → Int)} {g12 : (Int → Int)} {g13 : (Int → Int)} {g14 : (Int → Int)} {g15 : (Int → Int)} {g16 : (Int → Int)} {g17 : (Int → Int)} {g18 : (Int → Int)} {o : Int × Int × Int × Int × Int × Int × Int × Int × (Int → Int) × (Int → Int) × (Int → Int) × (Int → Int) × (Int → Int) × (Int → Int) × (Int → Int)} (h : zf_Pilot_followSecond x3 x4 x5 f0 f1 f4 f5 f6 f7 f8 f9 f10 f11 f12 f13 f14 f15 f16 f17 g0 g1 g2 g3 g4 g5 g6 g7 g8 g9 g10 g11 g12 g13 g14 g15 g16 g17 g18 = some o) : zv_Fn z_TB z_cl z_KX zy_Pilot_followSecond zxm174 (5, 300) [.inr 0, .inr 1, .inr 2, .inl x3, .inl x4, .inl x5] [.inl f0, .inl f1, .inr 7, .inr 9, .inl f4, .inl f5, .inl f6, .inl f7, .inl f8, .inl f9, .inl f10, .inl f11, .inl f12, .inl f13, .inl f14, .inl f15, .inl f16, .inl f17] [g0, g1, g2, g3, g4, g5, g6, g7, g8, g9, g10, g11, g12, g13, g14, g15, g16, g17, g18] none [.inl o.1, .inl f1, .inr 7, .inr 9, .inl o.2.1, .inl o.2.2.1, .inl o.2.2.2.1, .inl o.2.2.2.2.1, .inl f8, .inl f9, .inl f10, .inl f11, .inl f12, .inl o.2.2.2.2.2.1, .inl o.2.2.2.2.2.2.1, .inl f15, .inl o.2.2.2.2.2.2.2.1, .inl f17] [o.2.2.2.2.2.2.2.2.1, g1, o.2.2.2.2.2.2.2.2.2.1, g3, o.2.2.2.2.2.2.2.2.2.2.1, o.2.2.2.2.2.2.2.2.2.2.2.1, o.2.2.2.2.2.2.2.2.2.2.2.2.1, g7, g8, g9, g10, g11, o.2.2.2.2.2.2.2.2.2.2.2.2.2.1, g13, g14, g15, g16, g17, o.2.2.2.2.2.2.2.2.2.2.2.2.2.2] := zv_meth (K := (z_KF6, z_KC6, z_KL6, z_KT6, [], [], [], none)) (FT := z_FT) (MT := z_MT) (n := 6) zxp174 (z_ks6 _ (fun _ h => List.mem_cons_of_mem _ h) _ _ _ _ (fun j r h _ => by cases h)) (fun _ _ => zs_KX_p) zyw_Pilot_followSecond (fun va F G h => by obtain ⟨rfl, _⟩ := h; rfl) (fun va F G h => by obtain ⟨rfl, _⟩ := h; rfl) rfl fun good va F G hB hret hvret hP => by
  obtain ⟨rfl, rfl, rfl⟩ := hP
  have l1 : ∀ (n : Nat) (x3 : Int) (x4 : Int) (x5 : Int) (x6 : Int) (x7 : Int) (f0 : Int) (f4 : Int) (f5 : Int) (f6 : Int) (f7 : Int) (f13 : Int) (f14 : Int) (f16 : Int) (g0 : (Int → Int)) (g2 : (Int → Int)) (g4 : (Int → Int)) (g5 : (Int → Int)) (g6 : (Int → Int)) (g12 : (Int → Int)) (g18 : (Int → Int)) (q : Int × Int × Int × Int × Int × Int × (Int → Int) × (Int → Int) × (Int → Int) × (Int → Int)), zf_Pilot_followSecond_l1 x3 x4 x6 f1 f6 f7 f8 f9 f10 f11 f12 f15 f17 g1 g3 g5 g6 g7 g8 g9 g10 g11 g13 g14 g15 n x7 f0 f4 f5 f13 f14 f16 g0 g2 g4 g12 = some q → (good 213 [.inr 0, .inr 1, .inr 2, .inl x3, .inl x4, .inl x5, .inl x6, .inr 1000, .inr 1000, .inr 1000] [] [.inl q.1, .inl f1, .inr 7, .inr 9, .inl q.2.1, .inl q.2.2.1, .inl f6, .inl f7, .inl f8, .inl f9, .inl f10, .inl f11, .inl f12, .inl q.2.2.2.1, .inl q.2.2.2.2.1, .inl f15, .inl q.2.2.2.2.2.1, .inl f17] [q.2.2.2.2.2.2.1, g1, q.2.2.2.2.2.2.2.1, g3, q.2.2.2.2.2.2.2.2.1, g5, g6, g7, g8, g9, g10, g11, q.2.2.2.2.2.2.2.2.2, g13, g14, g15, g16, g17, g18]) → good 42 [.inr 0, .inr 1, .inr 2, .inl x3, .inl x4, .inl x5, .inl x6, .inl x7, .inr 1000, .inr 1000] [] [.inl f0, .inl f1, .inr 7, .inr 9, .inl f4, .inl f5, .inl f6, .inl f7, .inl f8, .inl f9, .inl f10, .inl f11, .inl f12, .inl f13, .inl f14, .inl f15, .inl f16, .inl f17] [g0, g1, g2, g3, g4, g5, g6, g7, g8, g9, g10, g11, g12, g13, g14, g15, g16, g17, g18] := by
    intro n
    induction n with
    | zero => intro x3 x4 x5 x6 x7 f0 f4 f5 f6 f7 f13 f14 f16 g0 g2 g4 g5 g6 g12 g18 q h; exact absurd (show none = some q from h) (fun h => by cases h)
    | succ n ih =>
      intro x3 x4 x5 x6 x7 f0 f4 f5 f6 f7 f13 f14 f16 g0 g2 g4 g5 g6 g12 g18 q h hK
      replace h : zf_Pilot_followSecond_l1_b x3 x4 x6 f1 f6 f7 f8 f9 f10 f11 f12 f15 f17 g1 g3 g5 g6 g7 g8 g9 g10 g11 g13 g14 g15 (zf_Pilot_followSecond_l1 x3 x4 x6 f1 f6 f7 f8 f9 f10 f11 f12 f15 f17 g1 g3 g5 g6 g7 g8 g9 g10 g11 g13 g14 g15 n) x7 f0 f4 f5 f13 f14 f16 g0 g2 g4 g12 = some q := h
      unfold zf_Pilot_followSecond_l1_b at h
      refine zv_ild hB zd174_42 rfl rfl ?_
      refine zv_ald hB zd174_44 rfl rfl rfl ?_
      refine zv_getf hB zd174_45 rfl rfl (fun _ _ => ?_)
      refine zv_cge hB zd174_48 rfl (fun hc4 => ?_) (fun hc4 => ?_)
      · rw [if_neg (Int.not_lt.mpr hc4)] at h
        have hq := Option.some.inj h
        subst hq
        refine zv_wk hB (L' := [.inr 0, .inr 1, .inr 2, .inl x3, .inl x4, .inl x5, .inl x6, .inr 1000, .inr 1000, .inr 1000]) (F' := [.inl f0, .inl f1, .inr 7, .inr 9, .inl f4, .inl f5, .inl f6, .inl f7, .inl f8, .inl f9, .inl f10, .inl f11, .inl f12, .inl f13, .inl f14, .inl f15, .inl f16, .inl f17]) ⟨fun _ => rfl, fun _ => rfl, fun _ => rfl, fun _ => rfl, fun _ => rfl, fun _ => rfl, fun _ => rfl, fun (h : zv_is (.inr 1000)) => (Nat.lt_irrefl 1000 h).elim, fun (h : zv_is (.inr 1000)) => (Nat.lt_irrefl 1000 h).elim, fun (h : zv_is (.inr 1000)) => (Nat.lt_irrefl 1000 h).elim, trivial⟩ ⟨fun _ => rfl, fun _ => rfl, fun _ => rfl, fun _ => rfl, fun _ => rfl, fun _ => rfl, fun _ => rfl, fun _ => rfl, fun _ => rfl, fun _ => rfl, fun _ => rfl, fun _ => rfl, fun _ => rfl, fun _ => rfl, fun _ => rfl, fun _ => rfl, fun _ => rfl, fun _ => rfl, trivial⟩ ?_
        exact hK
      · rw [if_pos hc4] at h
        refine zv_ald hB zd174_51 rfl rfl rfl ?_
        refine zv_getr hB zd174_52 rfl ?_
        refine zv_ild hB zd174_55 rfl rfl ?_
        obtain ⟨c5, h⟩ := zi_if h
        refine zv_iald hB zd174_57 rfl rfl (zi_ix_ok c5).1 (zi_ix_ok c5).2 (fun _ _ => ?_)
        refine zv_ild hB zd174_58 rfl rfl ?_
        refine zv_cge hB zd174_60 rfl (fun hc6 => ?_) (fun hc6 => ?_)
        · rw [if_neg (Int.not_lt.mpr hc6)] at h
          have hq := Option.some.inj h
          subst hq
          refine zv_wk hB (L' := [.inr 0, .inr 1, .inr 2, .inl x3, .inl x4, .inl x5, .inl x6, .inr 1000, .inr 1000, .inr 1000]) (F' := [.inl f0, .inl f1, .inr 7, .inr 9, .inl f4, .inl f5, .inl f6, .inl f7, .inl f8, .inl f9, .inl f10, .inl f11, .inl f12, .inl f13, .inl f14, .inl f15, .inl f16, .inl f17]) ⟨fun _ => rfl, fun _ => rfl, fun _ => rfl, fun _ => rfl, fun _ => rfl, fun _ => rfl, fun _ => rfl, fun (h : zv_is (.inr 1000)) => (Nat.lt_irrefl 1000 h).elim, fun (h : zv_is (.inr 1000)) => (Nat.lt_irrefl 1000 h).elim, fun (h : zv_is (.inr 1000)) => (Nat.lt_irrefl 1000 h).elim, trivial⟩ ⟨fun _ => rfl, fun _ => rfl, fun _ => rfl, fun _ => rfl, fun _ => rfl, fun _ => rfl, fun _ => rfl, fun _ => rfl, fun _ => rfl, fun _ => rfl, fun _ => rfl, fun _ => rfl, fun _ => rfl, fun _ => rfl, fun _ => rfl, fun _ => rfl, fun _ => rfl, fun _ => rfl, trivial⟩ ?_
          exact hK
        · rw [if_pos hc6] at h
          refine zv_ald hB zd174_63 rfl rfl rfl ?_
          refine zv_getr hB zd174_64 rfl ?_
          refine zv_ild hB zd174_67 rfl rfl ?_
          refine zv_iald hB zd174_69 rfl rfl (zi_ix_ok c5).1 (zi_ix_ok c5).2 (fun _ _ => ?_)
          refine zv_ild hB zd174_70 rfl rfl ?_
          refine zv_con hB zd174_72 rfl ?_
          refine zv_subw hB zd174_73 ?_
          refine zv_cne hB zd174_74 rfl (fun hc7 => ?_) (fun hc7 => ?_)
          · rw [if_neg hc7] at h
            refine zv_ald hB zd174_87 rfl rfl rfl ?_
            refine zv_getr hB zd174_88 rfl ?_
            refine zv_ild hB zd174_91 rfl rfl ?_
            refine zv_iald hB zd174_93 rfl rfl (zi_ix_ok c5).1 (zi_ix_ok c5).2 (fun _ _ => ?_)
            refine zv_ist hB zd174_94 rfl rfl rfl ?_
            refine zv_ald hB zd174_96 rfl rfl rfl ?_
            refine zv_getr hB zd174_97 rfl ?_
            refine zv_ild hB zd174_100 rfl rfl ?_
            obtain ⟨c8, h⟩ := zi_if h
            refine zv_iald hB zd174_102 rfl rfl (zi_ix_ok c8).1 (zi_ix_ok c8).2 (fun _ _ => ?_)
            refine zv_con hB zd174_103 rfl ?_
            refine zv_cne hB zd174_104 rfl (fun hc9 => ?_) (fun hc9 => ?_)
            · rw [if_neg hc9] at h
              refine zv_ald hB zd174_123 rfl rfl rfl ?_
              refine zv_getr hB zd174_124 rfl ?_
              refine zv_ild hB zd174_127 rfl rfl ?_
              refine zv_ald hB zd174_129 rfl rfl rfl ?_
              refine zv_getr hB zd174_130 rfl ?_
              refine zv_ild hB zd174_133 rfl rfl ?_
              refine zv_iald hB zd174_135 rfl rfl (zi_ix_ok c8).1 (zi_ix_ok c8).2 (fun _ _ => ?_)
              refine zv_iast hB zd174_136 rfl rfl (zi_ix_ok c5).1 (zi_ix_ok c5).2 ?_
              refine zv_ald hB zd174_137 rfl rfl rfl ?_
              refine zv_getr hB zd174_138 rfl ?_
              refine zv_ild hB zd174_141 rfl rfl ?_
              refine zv_iald hB zd174_143 rfl rfl (zi_ix_ok c5).1 (zi_ix_ok c5).2 (fun _ _ => ?_)
              refine zv_ild hB zd174_144 rfl rfl ?_
              refine zv_cne hB zd174_146 rfl (fun hc10 => ?_) (fun hc10 => ?_)
              · rw [if_neg hc10] at h
                refine zv_iincw hB zd174_207 rfl rfl ?_
                refine zv_goto hB zd174_210 rfl ?_
                refine zv_wk hB (L' := [.inr 0, .inr 1, .inr 2, .inl x3, .inl x4, .inl x5, .inl x6, .inl (zi_w (x7 + 1)), .inr 1000, .inr 1000]) (F' := [.inl f0, .inl f1, .inr 7, .inr 9, .inl f4, .inl f5, .inl f6, .inl f7, .inl f8, .inl f9, .inl f10, .inl f11, .inl f12, .inl f13, .inl f14, .inl f15, .inl f16, .inl f17]) ⟨fun _ => rfl, fun _ => rfl, fun _ => rfl, fun _ => rfl, fun _ => rfl, fun _ => rfl, fun _ => rfl, fun _ => rfl, fun (h : zv_is (.inr 1000)) => (Nat.lt_irrefl 1000 h).elim, fun (h : zv_is (.inr 1000)) => (Nat.lt_irrefl 1000 h).elim, trivial⟩ ⟨fun _ => rfl, fun _ => rfl, fun _ => rfl, fun _ => rfl, fun _ => rfl, fun _ => rfl, fun _ => rfl, fun _ => rfl, fun _ => rfl, fun _ => rfl, fun _ => rfl, fun _ => rfl, fun _ => rfl, fun _ => rfl, fun _ => rfl, fun _ => rfl, fun _ => rfl, fun _ => rfl, trivial⟩ ?_
                exact ih _ _ _ _ _ _ _ _ _ _ _ _ _ _ _ _ _ _ _ _ q h hK
              · rw [if_pos hc10] at h
                refine zv_ild hB zd174_149 rfl rfl ?_
                refine zv_con hB zd174_151 rfl ?_
                refine zv_mulw hB zd174_154 ?_
                refine zv_ald hB zd174_155 rfl rfl rfl ?_
                refine zv_getr hB zd174_156 rfl ?_
                refine zv_ild hB zd174_159 rfl rfl ?_
                refine zv_iald hB zd174_161 rfl rfl (zi_ix_ok c5).1 (zi_ix_ok c5).2 (fun _ _ => ?_)
                refine zv_con hB zd174_162 rfl ?_
                refine zv_mulw hB zd174_164 ?_
                refine zv_ald hB zd174_165 rfl rfl rfl ?_
                refine zv_getr hB zd174_166 rfl ?_
                refine zv_ild hB zd174_169 rfl rfl ?_
                refine zv_iald hB zd174_171 rfl rfl (zi_ix_ok c5).1 (zi_ix_ok c5).2 (fun _ _ => ?_)
                refine zv_addw hB zd174_172 ?_
                refine zv_con hB zd174_173 rfl ?_
                refine zv_mulw hB zd174_175 ?_
                refine zv_addw hB zd174_176 ?_
                refine zv_ild hB zd174_177 rfl rfl ?_
                refine zv_addw hB zd174_178 ?_
                refine zv_ist hB zd174_179 rfl rfl rfl ?_
                refine zv_ald hB zd174_181 rfl rfl rfl ?_
                refine zv_ald hB zd174_182 rfl rfl rfl ?_
                refine zv_getf hB zd174_183 rfl rfl (fun _ _ => ?_)
                refine zv_con hB zd174_186 rfl ?_
                refine zv_cne hB zd174_187 rfl (fun hc11 => ?_) (fun hc11 => ?_)
                · rw [if_neg hc11] at h
                  refine zv_ald hB zd174_195 rfl rfl rfl ?_
                  refine zv_getf hB zd174_196 rfl rfl (fun _ _ => ?_)
                  refine zv_ild hB zd174_199 rfl rfl ?_
                  obtain ⟨r12, hr12, h⟩ := zi_bind h
                  refine zv_cs hB (zv_emq (va2 := [.inl f0, .inl (zi_w ((zi_w ((zi_w (x6 * 6912)) + (zi_w ((zi_w ((zi_w ((g3 x7) * 12)) + (g1 x7))) * 24)))) + x3))]) (F := [.inl f0, .inl f1, .inr 7, .inr 9, .inl f4, .inl f5, .inl f6, .inl f7, .inl f8, .inl f9, .inl f10, .inl f11, .inl f12, .inl f13, .inl f14, .inl f15, .inl f16, .inl f17]) (F' := [.inl f0, .inl f1, .inr 7, .inr 9, .inl f4, .inl f5, .inl f6, .inl f7, .inl f8, .inl f9, .inl f10, .inl f11, .inl f12, .inl f13, .inl f14, .inl f15, .inl f16, .inl f17]) (G := [g0, g1, (zv_up g2 x7 (g0 (g2 x7))), g3, g4, g5, g6, g7, g8, g9, g10, g11, g12, g13, g14, g15, g16, g17, g18]) (G' := [g0, g1, (zv_up g2 x7 (g0 (g2 x7))), g3, g4, g5, g6, g7, g8, g9, g10, g11, g12, g13, g14, g15, g16, g17, g18]) (ρ := []) (φ := []) (ψ := []) [none, none, none, none, none, none, none, none, none, none, none, none, none, none, none, none, none, none] [none, none, none, none, none, none, none, none, none, none, none, none, none, none, none, none, none, none, none] zyw_Math_min zyw_Pilot_followSecond zye_Pilot_followSecond (by decide +kernel) (zt_Math_min hr12) trivial trivial rfl rfl rfl rfl rfl rfl rfl) zd174_201 zxt37 rfl (by decide) (by decide) rfl ?_
                  refine zv_putf hB zd174_204 rfl rfl (fun h => by cases h) rfl ?_
                  refine zv_iincw hB zd174_207 rfl rfl ?_
                  refine zv_goto hB zd174_210 rfl ?_
                  refine zv_wk hB (L' := [.inr 0, .inr 1, .inr 2, .inl x3, .inl x4, .inl x5, .inl x6, .inl (zi_w (x7 + 1)), .inr 1000, .inr 1000]) (F' := [.inl r12, .inl f1, .inr 7, .inr 9, .inl f4, .inl f5, .inl f6, .inl f7, .inl f8, .inl f9, .inl f10, .inl f11, .inl f12, .inl f13, .inl f14, .inl f15, .inl f16, .inl f17]) ⟨fun _ => rfl, fun _ => rfl, fun _ => rfl, fun _ => rfl, fun _ => rfl, fun _ => rfl, fun _ => rfl, fun _ => rfl, fun (h : zv_is (.inr 1000)) => (Nat.lt_irrefl 1000 h).elim, fun (h : zv_is (.inr 1000)) => (Nat.lt_irrefl 1000 h).elim, trivial⟩ ⟨fun _ => rfl, fun _ => rfl, fun _ => rfl, fun _ => rfl, fun _ => rfl, fun _ => rfl, fun _ => rfl, fun _ => rfl, fun _ => rfl, fun _ => rfl, fun _ => rfl, fun _ => rfl, fun _ => rfl, fun _ => rfl, fun _ => rfl, fun _ => rfl, fun _ => rfl, fun _ => rfl, trivial⟩ ?_
                  exact ih _ _ _ _ _ _ _ _ _ _ _ _ _ _ _ _ _ _ _ _ q h hK
                · rw [if_pos hc11] at h
                  refine zv_ild hB zd174_190 rfl rfl ?_
                  refine zv_goto hB zd174_192 rfl ?_
                  refine zv_putf hB zd174_204 rfl rfl (fun h => by cases h) rfl ?_
                  refine zv_iincw hB zd174_207 rfl rfl ?_
                  refine zv_goto hB zd174_210 rfl ?_
                  refine zv_wk hB (L' := [.inr 0, .inr 1, .inr 2, .inl x3, .inl x4, .inl x5, .inl x6, .inl (zi_w (x7 + 1)), .inr 1000, .inr 1000]) (F' := [.inl (zi_w ((zi_w ((zi_w (x6 * 6912)) + (zi_w ((zi_w ((zi_w ((g3 x7) * 12)) + (g1 x7))) * 24)))) + x3)), .inl f1, .inr 7, .inr 9, .inl f4, .inl f5, .inl f6, .inl f7, .inl f8, .inl f9, .inl f10, .inl f11, .inl f12, .inl f13, .inl f14, .inl f15, .inl f16, .inl f17]) ⟨fun _ => rfl, fun _ => rfl, fun _ => rfl, fun _ => rfl, fun _ => rfl, fun _ => rfl, fun _ => rfl, fun _ => rfl, fun (h : zv_is (.inr 1000)) => (Nat.lt_irrefl 1000 h).elim, fun (h : zv_is (.inr 1000)) => (Nat.lt_irrefl 1000 h).elim, trivial⟩ ⟨fun _ => rfl, fun _ => rfl, fun _ => rfl, fun _ => rfl, fun _ => rfl, fun _ => rfl, fun _ => rfl, fun _ => rfl, fun _ => rfl, fun _ => rfl, fun _ => rfl, fun _ => rfl, fun _ => rfl, fun _ => rfl, fun _ => rfl, fun _ => rfl, fun _ => rfl, fun _ => rfl, trivial⟩ ?_
                  exact ih _ _ _ _ _ _ _ _ _ _ _ _ _ _ _ _ _ _ _ _ q h hK
            · rw [if_pos hc9] at h
              refine zv_ald hB zd174_107 rfl rfl rfl ?_
              refine zv_getr hB zd174_108 rfl ?_
              refine zv_ild hB zd174_111 rfl rfl ?_
              refine zv_ald hB zd174_113 rfl rfl rfl ?_
              refine zv_ald hB zd174_114 rfl rfl rfl ?_
              refine zv_ald hB zd174_115 rfl rfl rfl ?_
              refine zv_ild hB zd174_116 rfl rfl ?_
              refine zv_ild hB zd174_118 rfl rfl ?_
              obtain ⟨r13, hr13, h⟩ := zi_bind h
              refine zv_cv hB (zv_emq (va2 := [.inr 0, .inr 1, .inr 2, .inl (g2 x7), .inl x3]) (F := [.inl f0, .inl f1, .inr 7, .inr 9, .inl f4, .inl f5, .inl f6, .inl f7, .inl f8, .inl f9, .inl f10, .inl f11, .inl f12, .inl f13, .inl f14, .inl f15, .inl f16, .inl f17]) (F' := [.inl f0, .inl f1, .inr 7, .inr 9, .inl r13.2.1, .inl r13.2.2.1, .inl f6, .inl f7, .inl f8, .inl f9, .inl f10, .inl f11, .inl f12, .inl r13.2.2.2.1, .inl r13.2.2.2.2.1, .inl f15, .inl r13.2.2.2.2.2.1, .inl f17]) (G := [g0, g1, g2, g3, g4, g5, g6, g7, g8, g9, g10, g11, g12, g13, g14, g15, g16, g17, g18]) (G' := [g0, g1, g2, g3, r13.2.2.2.2.2.2.1, g5, g6, g7, g8, g9, g10, g11, r13.2.2.2.2.2.2.2, g13, g14, g15, g16, g17, g18]) (ρ := [0, 1, 2, 7, 8, 9, 10, 11, 12, 13, 14, 15, 16, 17, 18, 19]) (φ := [2, 3, 4, 5, 6, 7, 8, 9, 10, 11, 12, 13, 14, 15, 16, 17]) (ψ := [4, 5, 6, 7, 8, 9, 10, 11, 12, 13, 14]) [none, none, some 0, some 1, some 2, some 3, some 4, some 5, some 6, some 7, some 8, some 9, some 10, some 11, some 12, some 13, some 14, some 15] [none, none, none, none, some 0, some 1, some 2, some 3, some 4, some 5, some 6, some 7, some 8, some 9, some 10, none, none, none, none] zyw_Pilot_step zyw_Pilot_followSecond zye_Pilot_followSecond (by decide +kernel) (zt_Pilot_step hr13) ⟨⟨_, rfl, fun _ => rfl⟩, ⟨_, rfl, fun _ => rfl⟩, ⟨_, rfl, fun _ => rfl⟩, ⟨_, rfl, fun _ => rfl⟩, ⟨_, rfl, fun _ => rfl⟩, ⟨_, rfl, fun _ => rfl⟩, ⟨_, rfl, fun _ => rfl⟩, ⟨_, rfl, fun _ => rfl⟩, ⟨_, rfl, fun _ => rfl⟩, ⟨_, rfl, fun _ => rfl⟩, ⟨_, rfl, fun _ => rfl⟩, ⟨_, rfl, fun _ => rfl⟩, ⟨_, rfl, fun _ => rfl⟩, ⟨_, rfl, fun _ => rfl⟩, ⟨_, rfl, fun _ => rfl⟩, ⟨_, rfl, fun _ => rfl⟩, trivial⟩ ⟨rfl, rfl, rfl, rfl, rfl, rfl, rfl, rfl, rfl, rfl, rfl, trivial⟩ rfl rfl rfl rfl rfl rfl rfl) zd174_119 zxt153 rfl (by decide) (by decide) rfl ?_
              refine zv_iast hB zd174_122 rfl rfl (zi_ix_ok c8).1 (zi_ix_ok c8).2 ?_
              refine zv_ald hB zd174_123 rfl rfl rfl ?_
              refine zv_getr hB zd174_124 rfl ?_
              refine zv_ild hB zd174_127 rfl rfl ?_
              refine zv_ald hB zd174_129 rfl rfl rfl ?_
              refine zv_getr hB zd174_130 rfl ?_
              refine zv_ild hB zd174_133 rfl rfl ?_
              refine zv_iald hB zd174_135 rfl rfl (zi_ix_ok c8).1 (zi_ix_ok c8).2 (fun _ _ => ?_)
              refine zv_iast hB zd174_136 rfl rfl (zi_ix_ok c5).1 (zi_ix_ok c5).2 ?_
              refine zv_ald hB zd174_137 rfl rfl rfl ?_
              refine zv_getr hB zd174_138 rfl ?_
              refine zv_ild hB zd174_141 rfl rfl ?_
              refine zv_iald hB zd174_143 rfl rfl (zi_ix_ok c5).1 (zi_ix_ok c5).2 (fun _ _ => ?_)
              refine zv_ild hB zd174_144 rfl rfl ?_
              refine zv_cne hB zd174_146 rfl (fun hc14 => ?_) (fun hc14 => ?_)
              · rw [if_neg hc14] at h
                refine zv_iincw hB zd174_207 rfl rfl ?_
                refine zv_goto hB zd174_210 rfl ?_
                refine zv_wk hB (L' := [.inr 0, .inr 1, .inr 2, .inl x3, .inl x4, .inl x5, .inl x6, .inl (zi_w (x7 + 1)), .inr 1000, .inr 1000]) (F' := [.inl f0, .inl f1, .inr 7, .inr 9, .inl r13.2.1, .inl r13.2.2.1, .inl f6, .inl f7, .inl f8, .inl f9, .inl f10, .inl f11, .inl f12, .inl r13.2.2.2.1, .inl r13.2.2.2.2.1, .inl f15, .inl r13.2.2.2.2.2.1, .inl f17]) ⟨fun _ => rfl, fun _ => rfl, fun _ => rfl, fun _ => rfl, fun _ => rfl, fun _ => rfl, fun _ => rfl, fun _ => rfl, fun (h : zv_is (.inr 1000)) => (Nat.lt_irrefl 1000 h).elim, fun (h : zv_is (.inr 1000)) => (Nat.lt_irrefl 1000 h).elim, trivial⟩ ⟨fun _ => rfl, fun _ => rfl, fun _ => rfl, fun _ => rfl, fun _ => rfl, fun _ => rfl, fun _ => rfl, fun _ => rfl, fun _ => rfl, fun _ => rfl, fun _ => rfl, fun _ => rfl, fun _ => rfl, fun _ => rfl, fun _ => rfl, fun _ => rfl, fun _ => rfl, fun _ => rfl, trivial⟩ ?_
                exact ih _ _ _ _ _ _ _ _ _ _ _ _ _ _ _ _ _ _ _ _ q h hK
              · rw [if_pos hc14] at h
                refine zv_ild hB zd174_149 rfl rfl ?_
                refine zv_con hB zd174_151 rfl ?_
                refine zv_mulw hB zd174_154 ?_
                refine zv_ald hB zd174_155 rfl rfl rfl ?_
                refine zv_getr hB zd174_156 rfl ?_
                refine zv_ild hB zd174_159 rfl rfl ?_
                refine zv_iald hB zd174_161 rfl rfl (zi_ix_ok c5).1 (zi_ix_ok c5).2 (fun _ _ => ?_)
                refine zv_con hB zd174_162 rfl ?_
                refine zv_mulw hB zd174_164 ?_
                refine zv_ald hB zd174_165 rfl rfl rfl ?_
                refine zv_getr hB zd174_166 rfl ?_
                refine zv_ild hB zd174_169 rfl rfl ?_
                refine zv_iald hB zd174_171 rfl rfl (zi_ix_ok c5).1 (zi_ix_ok c5).2 (fun _ _ => ?_)
                refine zv_addw hB zd174_172 ?_
                refine zv_con hB zd174_173 rfl ?_
                refine zv_mulw hB zd174_175 ?_
                refine zv_addw hB zd174_176 ?_
                refine zv_ild hB zd174_177 rfl rfl ?_
                refine zv_addw hB zd174_178 ?_
                refine zv_ist hB zd174_179 rfl rfl rfl ?_
                refine zv_ald hB zd174_181 rfl rfl rfl ?_
                refine zv_ald hB zd174_182 rfl rfl rfl ?_
                refine zv_getf hB zd174_183 rfl rfl (fun _ _ => ?_)
                refine zv_con hB zd174_186 rfl ?_
                refine zv_cne hB zd174_187 rfl (fun hc15 => ?_) (fun hc15 => ?_)
                · rw [if_neg hc15] at h
                  refine zv_ald hB zd174_195 rfl rfl rfl ?_
                  refine zv_getf hB zd174_196 rfl rfl (fun _ _ => ?_)
                  refine zv_ild hB zd174_199 rfl rfl ?_
                  obtain ⟨r16, hr16, h⟩ := zi_bind h
                  refine zv_cs hB (zv_emq (va2 := [.inl f0, .inl (zi_w ((zi_w ((zi_w (x6 * 6912)) + (zi_w ((zi_w ((zi_w ((g3 x7) * 12)) + (g1 x7))) * 24)))) + x3))]) (F := [.inl f0, .inl f1, .inr 7, .inr 9, .inl r13.2.1, .inl r13.2.2.1, .inl f6, .inl f7, .inl f8, .inl f9, .inl f10, .inl f11, .inl f12, .inl r13.2.2.2.1, .inl r13.2.2.2.2.1, .inl f15, .inl r13.2.2.2.2.2.1, .inl f17]) (F' := [.inl f0, .inl f1, .inr 7, .inr 9, .inl r13.2.1, .inl r13.2.2.1, .inl f6, .inl f7, .inl f8, .inl f9, .inl f10, .inl f11, .inl f12, .inl r13.2.2.2.1, .inl r13.2.2.2.2.1, .inl f15, .inl r13.2.2.2.2.2.1, .inl f17]) (G := [(zv_up g0 (g2 x7) r13.1), g1, (zv_up g2 x7 ((zv_up g0 (g2 x7) r13.1) (g2 x7))), g3, r13.2.2.2.2.2.2.1, g5, g6, g7, g8, g9, g10, g11, r13.2.2.2.2.2.2.2, g13, g14, g15, g16, g17, g18]) (G' := [(zv_up g0 (g2 x7) r13.1), g1, (zv_up g2 x7 ((zv_up g0 (g2 x7) r13.1) (g2 x7))), g3, r13.2.2.2.2.2.2.1, g5, g6, g7, g8, g9, g10, g11, r13.2.2.2.2.2.2.2, g13, g14, g15, g16, g17, g18]) (ρ := []) (φ := []) (ψ := []) [none, none, none, none, none, none, none, none, none, none, none, none, none, none, none, none, none, none] [none, none, none, none, none, none, none, none, none, none, none, none, none, none, none, none, none, none, none] zyw_Math_min zyw_Pilot_followSecond zye_Pilot_followSecond (by decide +kernel) (zt_Math_min hr16) trivial trivial rfl rfl rfl rfl rfl rfl rfl) zd174_201 zxt37 rfl (by decide) (by decide) rfl ?_
                  refine zv_putf hB zd174_204 rfl rfl (fun h => by cases h) rfl ?_
                  refine zv_iincw hB zd174_207 rfl rfl ?_
                  refine zv_goto hB zd174_210 rfl ?_
                  refine zv_wk hB (L' := [.inr 0, .inr 1, .inr 2, .inl x3, .inl x4, .inl x5, .inl x6, .inl (zi_w (x7 + 1)), .inr 1000, .inr 1000]) (F' := [.inl r16, .inl f1, .inr 7, .inr 9, .inl r13.2.1, .inl r13.2.2.1, .inl f6, .inl f7, .inl f8, .inl f9, .inl f10, .inl f11, .inl f12, .inl r13.2.2.2.1, .inl r13.2.2.2.2.1, .inl f15, .inl r13.2.2.2.2.2.1, .inl f17]) ⟨fun _ => rfl, fun _ => rfl, fun _ => rfl, fun _ => rfl, fun _ => rfl, fun _ => rfl, fun _ => rfl, fun _ => rfl, fun (h : zv_is (.inr 1000)) => (Nat.lt_irrefl 1000 h).elim, fun (h : zv_is (.inr 1000)) => (Nat.lt_irrefl 1000 h).elim, trivial⟩ ⟨fun _ => rfl, fun _ => rfl, fun _ => rfl, fun _ => rfl, fun _ => rfl, fun _ => rfl, fun _ => rfl, fun _ => rfl, fun _ => rfl, fun _ => rfl, fun _ => rfl, fun _ => rfl, fun _ => rfl, fun _ => rfl, fun _ => rfl, fun _ => rfl, fun _ => rfl, fun _ => rfl, trivial⟩ ?_
                  exact ih _ _ _ _ _ _ _ _ _ _ _ _ _ _ _ _ _ _ _ _ q h hK
                · rw [if_pos hc15] at h
                  refine zv_ild hB zd174_190 rfl rfl ?_
                  refine zv_goto hB zd174_192 rfl ?_
                  refine zv_putf hB zd174_204 rfl rfl (fun h => by cases h) rfl ?_
                  refine zv_iincw hB zd174_207 rfl rfl ?_
                  refine zv_goto hB zd174_210 rfl ?_
                  refine zv_wk hB (L' := [.inr 0, .inr 1, .inr 2, .inl x3, .inl x4, .inl x5, .inl x6, .inl (zi_w (x7 + 1)), .inr 1000, .inr 1000]) (F' := [.inl (zi_w ((zi_w ((zi_w (x6 * 6912)) + (zi_w ((zi_w ((zi_w ((g3 x7) * 12)) + (g1 x7))) * 24)))) + x3)), .inl f1, .inr 7, .inr 9, .inl r13.2.1, .inl r13.2.2.1, .inl f6, .inl f7, .inl f8, .inl f9, .inl f10, .inl f11, .inl f12, .inl r13.2.2.2.1, .inl r13.2.2.2.2.1, .inl f15, .inl r13.2.2.2.2.2.1, .inl f17]) ⟨fun _ => rfl, fun _ => rfl, fun _ => rfl, fun _ => rfl, fun _ => rfl, fun _ => rfl, fun _ => rfl, fun _ => rfl, fun (h : zv_is (.inr 1000)) => (Nat.lt_irrefl 1000 h).elim, fun (h : zv_is (.inr 1000)) => (Nat.lt_irrefl 1000 h).elim, trivial⟩ ⟨fun _ => rfl, fun _ => rfl, fun _ => rfl, fun _ => rfl, fun _ => rfl, fun _ => rfl, fun _ => rfl, fun _ => rfl, fun _ => rfl, fun _ => rfl, fun _ => rfl, fun _ => rfl, fun _ => rfl, fun _ => rfl, fun _ => rfl, fun _ => rfl, fun _ => rfl, fun _ => rfl, trivial⟩ ?_
                  exact ih _ _ _ _ _ _ _ _ _ _ _ _ _ _ _ _ _ _ _ _ q h hK
          · rw [if_pos hc7] at h
            refine zv_ald hB zd174_77 rfl rfl rfl ?_
            refine zv_getr hB zd174_78 rfl ?_
            refine zv_ild hB zd174_81 rfl rfl ?_
            refine zv_iald hB zd174_83 rfl rfl (zi_ix_ok c5).1 (zi_ix_ok c5).2 (fun _ _ => ?_)
            refine zv_goto hB zd174_84 rfl ?_
            refine zv_ist hB zd174_94 rfl rfl rfl ?_
            refine zv_ald hB zd174_96 rfl rfl rfl ?_
            refine zv_getr hB zd174_97 rfl ?_
            refine zv_ild hB zd174_100 rfl rfl ?_
            obtain ⟨c17, h⟩ := zi_if h
            refine zv_iald hB zd174_102 rfl rfl (zi_ix_ok c17).1 (zi_ix_ok c17).2 (fun _ _ => ?_)
            refine zv_con hB zd174_103 rfl ?_
            refine zv_cne hB zd174_104 rfl (fun hc18 => ?_) (fun hc18 => ?_)
            · rw [if_neg hc18] at h
              refine zv_ald hB zd174_123 rfl rfl rfl ?_
              refine zv_getr hB zd174_124 rfl ?_
              refine zv_ild hB zd174_127 rfl rfl ?_
              refine zv_ald hB zd174_129 rfl rfl rfl ?_
              refine zv_getr hB zd174_130 rfl ?_
              refine zv_ild hB zd174_133 rfl rfl ?_
              refine zv_iald hB zd174_135 rfl rfl (zi_ix_ok c17).1 (zi_ix_ok c17).2 (fun _ _ => ?_)
              refine zv_iast hB zd174_136 rfl rfl (zi_ix_ok c5).1 (zi_ix_ok c5).2 ?_
              refine zv_ald hB zd174_137 rfl rfl rfl ?_
              refine zv_getr hB zd174_138 rfl ?_
              refine zv_ild hB zd174_141 rfl rfl ?_
              refine zv_iald hB zd174_143 rfl rfl (zi_ix_ok c5).1 (zi_ix_ok c5).2 (fun _ _ => ?_)
              refine zv_ild hB zd174_144 rfl rfl ?_
              refine zv_cne hB zd174_146 rfl (fun hc19 => ?_) (fun hc19 => ?_)
              · rw [if_neg hc19] at h
                refine zv_iincw hB zd174_207 rfl rfl ?_
                refine zv_goto hB zd174_210 rfl ?_
                refine zv_wk hB (L' := [.inr 0, .inr 1, .inr 2, .inl x3, .inl x4, .inl x5, .inl x6, .inl (zi_w (x7 + 1)), .inr 1000, .inr 1000]) (F' := [.inl f0, .inl f1, .inr 7, .inr 9, .inl f4, .inl f5, .inl f6, .inl f7, .inl f8, .inl f9, .inl f10, .inl f11, .inl f12, .inl f13, .inl f14, .inl f15, .inl f16, .inl f17]) ⟨fun _ => rfl, fun _ => rfl, fun _ => rfl, fun _ => rfl, fun _ => rfl, fun _ => rfl, fun _ => rfl, fun _ => rfl, fun (h : zv_is (.inr 1000)) => (Nat.lt_irrefl 1000 h).elim, fun (h : zv_is (.inr 1000)) => (Nat.lt_irrefl 1000 h).elim, trivial⟩ ⟨fun _ => rfl, fun _ => rfl, fun _ => rfl, fun _ => rfl, fun _ => rfl, fun _ => rfl, fun _ => rfl, fun _ => rfl, fun _ => rfl, fun _ => rfl, fun _ => rfl, fun _ => rfl, fun _ => rfl, fun _ => rfl, fun _ => rfl, fun _ => rfl, fun _ => rfl, fun _ => rfl, trivial⟩ ?_
                exact ih _ _ _ _ _ _ _ _ _ _ _ _ _ _ _ _ _ _ _ _ q h hK
              · rw [if_pos hc19] at h
                refine zv_ild hB zd174_149 rfl rfl ?_
                refine zv_con hB zd174_151 rfl ?_
                refine zv_mulw hB zd174_154 ?_
                refine zv_ald hB zd174_155 rfl rfl rfl ?_
                refine zv_getr hB zd174_156 rfl ?_
                refine zv_ild hB zd174_159 rfl rfl ?_
                refine zv_iald hB zd174_161 rfl rfl (zi_ix_ok c5).1 (zi_ix_ok c5).2 (fun _ _ => ?_)
                refine zv_con hB zd174_162 rfl ?_
                refine zv_mulw hB zd174_164 ?_
                refine zv_ald hB zd174_165 rfl rfl rfl ?_
                refine zv_getr hB zd174_166 rfl ?_
                refine zv_ild hB zd174_169 rfl rfl ?_
                refine zv_iald hB zd174_171 rfl rfl (zi_ix_ok c5).1 (zi_ix_ok c5).2 (fun _ _ => ?_)
                refine zv_addw hB zd174_172 ?_
                refine zv_con hB zd174_173 rfl ?_
                refine zv_mulw hB zd174_175 ?_
                refine zv_addw hB zd174_176 ?_
                refine zv_ild hB zd174_177 rfl rfl ?_
                refine zv_addw hB zd174_178 ?_
                refine zv_ist hB zd174_179 rfl rfl rfl ?_
                refine zv_ald hB zd174_181 rfl rfl rfl ?_
                refine zv_ald hB zd174_182 rfl rfl rfl ?_
                refine zv_getf hB zd174_183 rfl rfl (fun _ _ => ?_)
                refine zv_con hB zd174_186 rfl ?_
                refine zv_cne hB zd174_187 rfl (fun hc20 => ?_) (fun hc20 => ?_)
                · rw [if_neg hc20] at h
                  refine zv_ald hB zd174_195 rfl rfl rfl ?_
                  refine zv_getf hB zd174_196 rfl rfl (fun _ _ => ?_)
                  refine zv_ild hB zd174_199 rfl rfl ?_
                  obtain ⟨r21, hr21, h⟩ := zi_bind h
                  refine zv_cs hB (zv_emq (va2 := [.inl f0, .inl (zi_w ((zi_w ((zi_w (x6 * 6912)) + (zi_w ((zi_w ((zi_w ((g3 x7) * 12)) + (g1 x7))) * 24)))) + x3))]) (F := [.inl f0, .inl f1, .inr 7, .inr 9, .inl f4, .inl f5, .inl f6, .inl f7, .inl f8, .inl f9, .inl f10, .inl f11, .inl f12, .inl f13, .inl f14, .inl f15, .inl f16, .inl f17]) (F' := [.inl f0, .inl f1, .inr 7, .inr 9, .inl f4, .inl f5, .inl f6, .inl f7, .inl f8, .inl f9, .inl f10, .inl f11, .inl f12, .inl f13, .inl f14, .inl f15, .inl f16, .inl f17]) (G := [g0, g1, (zv_up g2 x7 (g0 (g15 x7))), g3, g4, g5, g6, g7, g8, g9, g10, g11, g12, g13, g14, g15, g16, g17, g18]) (G' := [g0, g1, (zv_up g2 x7 (g0 (g15 x7))), g3, g4, g5, g6, g7, g8, g9, g10, g11, g12, g13, g14, g15, g16, g17, g18]) (ρ := []) (φ := []) (ψ := []) [none, none, none, none, none, none, none, none, none, none, none, none, none, none, none, none, none, none] [none, none, none, none, none, none, none, none, none, none, none, none, none, none, none, none, none, none, none] zyw_Math_min zyw_Pilot_followSecond zye_Pilot_followSecond (by decide +kernel) (zt_Math_min hr21) trivial trivial rfl rfl rfl rfl rfl rfl rfl) zd174_201 zxt37 rfl (by decide) (by decide) rfl ?_
                  refine zv_putf hB zd174_204 rfl rfl (fun h => by cases h) rfl ?_
                  refine zv_iincw hB zd174_207 rfl rfl ?_
                  refine zv_goto hB zd174_210 rfl ?_
                  refine zv_wk hB (L' := [.inr 0, .inr 1, .inr 2, .inl x3, .inl x4, .inl x5, .inl x6, .inl (zi_w (x7 + 1)), .inr 1000, .inr 1000]) (F' := [.inl r21, .inl f1, .inr 7, .inr 9, .inl f4, .inl f5, .inl f6, .inl f7, .inl f8, .inl f9, .inl f10, .inl f11, .inl f12, .inl f13, .inl f14, .inl f15, .inl f16, .inl f17]) ⟨fun _ => rfl, fun _ => rfl, fun _ => rfl, fun _ => rfl, fun _ => rfl, fun _ => rfl, fun _ => rfl, fun _ => rfl, fun (h : zv_is (.inr 1000)) => (Nat.lt_irrefl 1000 h).elim, fun (h : zv_is (.inr 1000)) => (Nat.lt_irrefl 1000 h).elim, trivial⟩ ⟨fun _ => rfl, fun _ => rfl, fun _ => rfl, fun _ => rfl, fun _ => rfl, fun _ => rfl, fun _ => rfl, fun _ => rfl, fun _ => rfl, fun _ => rfl, fun _ => rfl, fun _ => rfl, fun _ => rfl, fun _ => rfl, fun _ => rfl, fun _ => rfl, fun _ => rfl, fun _ => rfl, trivial⟩ ?_
                  exact ih _ _ _ _ _ _ _ _ _ _ _ _ _ _ _ _ _ _ _ _ q h hK
                · rw [if_pos hc20] at h
                  refine zv_ild hB zd174_190 rfl rfl ?_
                  refine zv_goto hB zd174_192 rfl ?_
                  refine zv_putf hB zd174_204 rfl rfl (fun h => by cases h) rfl ?_
                  refine zv_iincw hB zd174_207 rfl rfl ?_
                  refine zv_goto hB zd174_210 rfl ?_
                  refine zv_wk hB (L' := [.inr 0, .inr 1, .inr 2, .inl x3, .inl x4, .inl x5, .inl x6, .inl (zi_w (x7 + 1)), .inr 1000, .inr 1000]) (F' := [.inl (zi_w ((zi_w ((zi_w (x6 * 6912)) + (zi_w ((zi_w ((zi_w ((g3 x7) * 12)) + (g1 x7))) * 24)))) + x3)), .inl f1, .inr 7, .inr 9, .inl f4, .inl f5, .inl f6, .inl f7, .inl f8, .inl f9, .inl f10, .inl f11, .inl f12, .inl f13, .inl f14, .inl f15, .inl f16, .inl f17]) ⟨fun _ => rfl, fun _ => rfl, fun _ => rfl, fun _ => rfl, fun _ => rfl, fun _ => rfl, fun _ => rfl, fun _ => rfl, fun (h : zv_is (.inr 1000)) => (Nat.lt_irrefl 1000 h).elim, fun (h : zv_is (.inr 1000)) => (Nat.lt_irrefl 1000 h).elim, trivial⟩ ⟨fun _ => rfl, fun _ => rfl, fun _ => rfl, fun _ => rfl, fun _ => rfl, fun _ => rfl, fun _ => rfl, fun _ => rfl, fun _ => rfl, fun _ => rfl, fun _ => rfl, fun _ => rfl, fun _ => rfl, fun _ => rfl, fun _ => rfl, fun _ => rfl, fun _ => rfl, fun _ => rfl, trivial⟩ ?_
                  exact ih _ _ _ _ _ _ _ _ _ _ _ _ _ _ _ _ _ _ _ _ q h hK
            · rw [if_pos hc18] at h
              refine zv_ald hB zd174_107 rfl rfl rfl ?_
              refine zv_getr hB zd174_108 rfl ?_
              refine zv_ild hB zd174_111 rfl rfl ?_
              refine zv_ald hB zd174_113 rfl rfl rfl ?_
              refine zv_ald hB zd174_114 rfl rfl rfl ?_
              refine zv_ald hB zd174_115 rfl rfl rfl ?_
              refine zv_ild hB zd174_116 rfl rfl ?_
              refine zv_ild hB zd174_118 rfl rfl ?_
              obtain ⟨r22, hr22, h⟩ := zi_bind h
              refine zv_cv hB (zv_emq (va2 := [.inr 0, .inr 1, .inr 2, .inl (g15 x7), .inl x3]) (F := [.inl f0, .inl f1, .inr 7, .inr 9, .inl f4, .inl f5, .inl f6, .inl f7, .inl f8, .inl f9, .inl f10, .inl f11, .inl f12, .inl f13, .inl f14, .inl f15, .inl f16, .inl f17]) (F' := [.inl f0, .inl f1, .inr 7, .inr 9, .inl r22.2.1, .inl r22.2.2.1, .inl f6, .inl f7, .inl f8, .inl f9, .inl f10, .inl f11, .inl f12, .inl r22.2.2.2.1, .inl r22.2.2.2.2.1, .inl f15, .inl r22.2.2.2.2.2.1, .inl f17]) (G := [g0, g1, g2, g3, g4, g5, g6, g7, g8, g9, g10, g11, g12, g13, g14, g15, g16, g17, g18]) (G' := [g0, g1, g2, g3, r22.2.2.2.2.2.2.1, g5, g6, g7, g8, g9, g10, g11, r22.2.2.2.2.2.2.2, g13, g14, g15, g16, g17, g18]) (ρ := [0, 1, 2, 7, 8, 9, 10, 11, 12, 13, 14, 15, 16, 17, 18, 19]) (φ := [2, 3, 4, 5, 6, 7, 8, 9, 10, 11, 12, 13, 14, 15, 16, 17]) (ψ := [4, 5, 6, 7, 8, 9, 10, 11, 12, 13, 14]) [none, none, some 0, some 1, some 2, some 3, some 4, some 5, some 6, some 7, some 8, some 9, some 10, some 11, some 12, some 13, some 14, some 15] [none, none, none, none, some 0, some 1, some 2, some 3, some 4, some 5, some 6, some 7, some 8, some 9, some 10, none, none, none, none] zyw_Pilot_step zyw_Pilot_followSecond zye_Pilot_followSecond (by decide +kernel) (zt_Pilot_step hr22) ⟨⟨_, rfl, fun _ => rfl⟩, ⟨_, rfl, fun _ => rfl⟩, ⟨_, rfl, fun _ => rfl⟩, ⟨_, rfl, fun _ => rfl⟩, ⟨_, rfl, fun _ => rfl⟩, ⟨_, rfl, fun _ => rfl⟩, ⟨_, rfl, fun _ => rfl⟩, ⟨_, rfl, fun _ => rfl⟩, ⟨_, rfl, fun _ => rfl⟩, ⟨_, rfl, fun _ => rfl⟩, ⟨_, rfl, fun _ => rfl⟩, ⟨_, rfl, fun _ => rfl⟩, ⟨_, rfl, fun _ => rfl⟩, ⟨_, rfl, fun _ => rfl⟩, ⟨_, rfl, fun _ => rfl⟩, ⟨_, rfl, fun _ => rfl⟩, trivial⟩ ⟨rfl, rfl, rfl, rfl, rfl, rfl, rfl, rfl, rfl, rfl, rfl, trivial⟩ rfl rfl rfl rfl rfl rfl rfl) zd174_119 zxt153 rfl (by decide) (by decide) rfl ?_
              refine zv_iast hB zd174_122 rfl rfl (zi_ix_ok c17).1 (zi_ix_ok c17).2 ?_
              refine zv_ald hB zd174_123 rfl rfl rfl ?_
              refine zv_getr hB zd174_124 rfl ?_
              refine zv_ild hB zd174_127 rfl rfl ?_
              refine zv_ald hB zd174_129 rfl rfl rfl ?_
              refine zv_getr hB zd174_130 rfl ?_
              refine zv_ild hB zd174_133 rfl rfl ?_
              refine zv_iald hB zd174_135 rfl rfl (zi_ix_ok c17).1 (zi_ix_ok c17).2 (fun _ _ => ?_)
              refine zv_iast hB zd174_136 rfl rfl (zi_ix_ok c5).1 (zi_ix_ok c5).2 ?_
              refine zv_ald hB zd174_137 rfl rfl rfl ?_
              refine zv_getr hB zd174_138 rfl ?_
              refine zv_ild hB zd174_141 rfl rfl ?_
              refine zv_iald hB zd174_143 rfl rfl (zi_ix_ok c5).1 (zi_ix_ok c5).2 (fun _ _ => ?_)
              refine zv_ild hB zd174_144 rfl rfl ?_
              refine zv_cne hB zd174_146 rfl (fun hc23 => ?_) (fun hc23 => ?_)
              · rw [if_neg hc23] at h
                refine zv_iincw hB zd174_207 rfl rfl ?_
                refine zv_goto hB zd174_210 rfl ?_
                refine zv_wk hB (L' := [.inr 0, .inr 1, .inr 2, .inl x3, .inl x4, .inl x5, .inl x6, .inl (zi_w (x7 + 1)), .inr 1000, .inr 1000]) (F' := [.inl f0, .inl f1, .inr 7, .inr 9, .inl r22.2.1, .inl r22.2.2.1, .inl f6, .inl f7, .inl f8, .inl f9, .inl f10, .inl f11, .inl f12, .inl r22.2.2.2.1, .inl r22.2.2.2.2.1, .inl f15, .inl r22.2.2.2.2.2.1, .inl f17]) ⟨fun _ => rfl, fun _ => rfl, fun _ => rfl, fun _ => rfl, fun _ => rfl, fun _ => rfl, fun _ => rfl, fun _ => rfl, fun (h : zv_is (.inr 1000)) => (Nat.lt_irrefl 1000 h).elim, fun (h : zv_is (.inr 1000)) => (Nat.lt_irrefl 1000 h).elim, trivial⟩ ⟨fun _ => rfl, fun _ => rfl, fun _ => rfl, fun _ => rfl, fun _ => rfl, fun _ => rfl, fun _ => rfl, fun _ => rfl, fun _ => rfl, fun _ => rfl, fun _ => rfl, fun _ => rfl, fun _ => rfl, fun _ => rfl, fun _ => rfl, fun _ => rfl, fun _ => rfl, fun _ => rfl, trivial⟩ ?_
                exact ih _ _ _ _ _ _ _ _ _ _ _ _ _ _ _ _ _ _ _ _ q h hK
              · rw [if_pos hc23] at h
                refine zv_ild hB zd174_149 rfl rfl ?_
                refine zv_con hB zd174_151 rfl ?_
                refine zv_mulw hB zd174_154 ?_
                refine zv_ald hB zd174_155 rfl rfl rfl ?_
                refine zv_getr hB zd174_156 rfl ?_
                refine zv_ild hB zd174_159 rfl rfl ?_
                refine zv_iald hB zd174_161 rfl rfl (zi_ix_ok c5).1 (zi_ix_ok c5).2 (fun _ _ => ?_)
                refine zv_con hB zd174_162 rfl ?_
                refine zv_mulw hB zd174_164 ?_
                refine zv_ald hB zd174_165 rfl rfl rfl ?_
                refine zv_getr hB zd174_166 rfl ?_
                refine zv_ild hB zd174_169 rfl rfl ?_
                refine zv_iald hB zd174_171 rfl rfl (zi_ix_ok c5).1 (zi_ix_ok c5).2 (fun _ _ => ?_)
                refine zv_addw hB zd174_172 ?_
                refine zv_con hB zd174_173 rfl ?_
                refine zv_mulw hB zd174_175 ?_
                refine zv_addw hB zd174_176 ?_
                refine zv_ild hB zd174_177 rfl rfl ?_
                refine zv_addw hB zd174_178 ?_
                refine zv_ist hB zd174_179 rfl rfl rfl ?_
                refine zv_ald hB zd174_181 rfl rfl rfl ?_
                refine zv_ald hB zd174_182 rfl rfl rfl ?_
                refine zv_getf hB zd174_183 rfl rfl (fun _ _ => ?_)
                refine zv_con hB zd174_186 rfl ?_
                refine zv_cne hB zd174_187 rfl (fun hc24 => ?_) (fun hc24 => ?_)
                · rw [if_neg hc24] at h
                  refine zv_ald hB zd174_195 rfl rfl rfl ?_
                  refine zv_getf hB zd174_196 rfl rfl (fun _ _ => ?_)
                  refine zv_ild hB zd174_199 rfl rfl ?_
                  obtain ⟨r25, hr25, h⟩ := zi_bind h
                  refine zv_cs hB (zv_emq (va2 := [.inl f0, .inl (zi_w ((zi_w ((zi_w (x6 * 6912)) + (zi_w ((zi_w ((zi_w ((g3 x7) * 12)) + (g1 x7))) * 24)))) + x3))]) (F := [.inl f0, .inl f1, .inr 7, .inr 9, .inl r22.2.1, .inl r22.2.2.1, .inl f6, .inl f7, .inl f8, .inl f9, .inl f10, .inl f11, .inl f12, .inl r22.2.2.2.1, .inl r22.2.2.2.2.1, .inl f15, .inl r22.2.2.2.2.2.1, .inl f17]) (F' := [.inl f0, .inl f1, .inr 7, .inr 9, .inl r22.2.1, .inl r22.2.2.1, .inl f6, .inl f7, .inl f8, .inl f9, .inl f10, .inl f11, .inl f12, .inl r22.2.2.2.1, .inl r22.2.2.2.2.1, .inl f15, .inl r22.2.2.2.2.2.1, .inl f17]) (G := [(zv_up g0 (g15 x7) r22.1), g1, (zv_up g2 x7 ((zv_up g0 (g15 x7) r22.1) (g15 x7))), g3, r22.2.2.2.2.2.2.1, g5, g6, g7, g8, g9, g10, g11, r22.2.2.2.2.2.2.2, g13, g14, g15, g16, g17, g18]) (G' := [(zv_up g0 (g15 x7) r22.1), g1, (zv_up g2 x7 ((zv_up g0 (g15 x7) r22.1) (g15 x7))), g3, r22.2.2.2.2.2.2.1, g5, g6, g7, g8, g9, g10, g11, r22.2.2.2.2.2.2.2, g13, g14, g15, g16, g17, g18]) (ρ := []) (φ := []) (ψ := []) [none, none, none, none, none, none, none, none, none, none, none, none, none, none, none, none, none, none] [none, none, none, none, none, none, none, none, none, none, none, none, none, none, none, none, none, none, none] zyw_Math_min zyw_Pilot_followSecond zye_Pilot_followSecond (by decide +kernel) (zt_Math_min hr25) trivial trivial rfl rfl rfl rfl rfl rfl rfl) zd174_201 zxt37 rfl (by decide) (by decide) rfl ?_
                  refine zv_putf hB zd174_204 rfl rfl (fun h => by cases h) rfl ?_
                  refine zv_iincw hB zd174_207 rfl rfl ?_
                  refine zv_goto hB zd174_210 rfl ?_
                  refine zv_wk hB (L' := [.inr 0, .inr 1, .inr 2, .inl x3, .inl x4, .inl x5, .inl x6, .inl (zi_w (x7 + 1)), .inr 1000, .inr 1000]) (F' := [.inl r25, .inl f1, .inr 7, .inr 9, .inl r22.2.1, .inl r22.2.2.1, .inl f6, .inl f7, .inl f8, .inl f9, .inl f10, .inl f11, .inl f12, .inl r22.2.2.2.1, .inl r22.2.2.2.2.1, .inl f15, .inl r22.2.2.2.2.2.1, .inl f17]) ⟨fun _ => rfl, fun _ => rfl, fun _ => rfl, fun _ => rfl, fun _ => rfl, fun _ => rfl, fun _ => rfl, fun _ => rfl, fun (h : zv_is (.inr 1000)) => (Nat.lt_irrefl 1000 h).elim, fun (h : zv_is (.inr 1000)) => (Nat.lt_irrefl 1000 h).elim, trivial⟩ ⟨fun _ => rfl, fun _ => rfl, fun _ => rfl, fun _ => rfl, fun _ => rfl, fun _ => rfl, fun _ => rfl, fun _ => rfl, fun _ => rfl, fun _ => rfl, fun _ => rfl, fun _ => rfl, fun _ => rfl, fun _ => rfl, fun _ => rfl, fun _ => rfl, fun _ => rfl, fun _ => rfl, trivial⟩ ?_
                  exact ih _ _ _ _ _ _ _ _ _ _ _ _ _ _ _ _ _ _ _ _ q h hK
                · rw [if_pos hc24] at h
                  refine zv_ild hB zd174_190 rfl rfl ?_
                  refine zv_goto hB zd174_192 rfl ?_
                  refine zv_putf hB zd174_204 rfl rfl (fun h => by cases h) rfl ?_
                  refine zv_iincw hB zd174_207 rfl rfl ?_
                  refine zv_goto hB zd174_210 rfl ?_
                  refine zv_wk hB (L' := [.inr 0, .inr 1, .inr 2, .inl x3, .inl x4, .inl x5, .inl x6, .inl (zi_w (x7 + 1)), .inr 1000, .inr 1000]) (F' := [.inl (zi_w ((zi_w ((zi_w (x6 * 6912)) + (zi_w ((zi_w ((zi_w ((g3 x7) * 12)) + (g1 x7))) * 24)))) + x3)), .inl f1, .inr 7, .inr 9, .inl r22.2.1, .inl r22.2.2.1, .inl f6, .inl f7, .inl f8, .inl f9, .inl f10, .inl f11, .inl f12, .inl r22.2.2.2.1, .inl r22.2.2.2.2.1, .inl f15, .inl r22.2.2.2.2.2.1, .inl f17]) ⟨fun _ => rfl, fun _ => rfl, fun _ => rfl, fun _ => rfl, fun _ => rfl, fun _ => rfl, fun _ => rfl, fun _ => rfl, fun (h : zv_is (.inr 1000)) => (Nat.lt_irrefl 1000 h).elim, fun (h : zv_is (.inr 1000)) => (Nat.lt_irrefl 1000 h).elim, trivial⟩ ⟨fun _ => rfl, fun _ => rfl, fun _ => rfl, fun _ => rfl, fun _ => rfl, fun _ => rfl, fun _ => rfl, fun _ => rfl, fun _ => rfl, fun _ => rfl, fun _ => rfl, fun _ => rfl, fun _ => rfl, fun _ => rfl, fun _ => rfl, fun _ => rfl, fun _ => rfl, fun _ => rfl, trivial⟩ ?_
                  exact ih _ _ _ _ _ _ _ _ _ _ _ _ _ _ _ _ _ _ _ _ q h hK
  have l0 : ∀ (n : Nat) (x3 : Int) (x4 : Int) (x5 : Int) (x6 : Int) (f0 : Int) (f4 : Int) (f5 : Int) (f6 : Int) (f7 : Int) (f13 : Int) (f14 : Int) (f16 : Int) (g0 : (Int → Int)) (g2 : (Int → Int)) (g4 : (Int → Int)) (g5 : (Int → Int)) (g6 : (Int → Int)) (g12 : (Int → Int)) (g18 : (Int → Int)) (q : Int × Int × Int × Int × Int × Int × Int × Int × (Int → Int) × (Int → Int) × (Int → Int) × (Int → Int) × (Int → Int) × (Int → Int) × (Int → Int)), zf_Pilot_followSecond_l0 x3 x4 x5 f1 f8 f9 f10 f11 f12 f15 f17 g1 g3 g7 g8 g9 g10 g11 g13 g14 g15 g16 g17 n x6 f0 f4 f5 f6 f7 f13 f14 f16 g0 g2 g4 g5 g6 g12 g18 = some q → (good 224 [.inr 1000, .inr 1000, .inr 1000, .inr 1000, .inr 1000, .inr 1000, .inr 1000, .inr 1000, .inr 1000, .inr 1000] [] [.inl q.1, .inl f1, .inr 7, .inr 9, .inl q.2.1, .inl q.2.2.1, .inl q.2.2.2.1, .inl q.2.2.2.2.1, .inl f8, .inl f9, .inl f10, .inl f11, .inl f12, .inl q.2.2.2.2.2.1, .inl q.2.2.2.2.2.2.1, .inl f15, .inl q.2.2.2.2.2.2.2.1, .inl f17] [q.2.2.2.2.2.2.2.2.1, g1, q.2.2.2.2.2.2.2.2.2.1, g3, q.2.2.2.2.2.2.2.2.2.2.1, q.2.2.2.2.2.2.2.2.2.2.2.1, q.2.2.2.2.2.2.2.2.2.2.2.2.1, g7, g8, g9, g10, g11, q.2.2.2.2.2.2.2.2.2.2.2.2.2.1, g13, g14, g15, g16, g17, q.2.2.2.2.2.2.2.2.2.2.2.2.2.2]) → good 3 [.inr 0, .inr 1, .inr 2, .inl x3, .inl x4, .inl x5, .inl x6, .inr 1000, .inr 1000, .inr 1000] [] [.inl f0, .inl f1, .inr 7, .inr 9, .inl f4, .inl f5, .inl f6, .inl f7, .inl f8, .inl f9, .inl f10, .inl f11, .inl f12, .inl f13, .inl f14, .inl f15, .inl f16, .inl f17] [g0, g1, g2, g3, g4, g5, g6, g7, g8, g9, g10, g11, g12, g13, g14, g15, g16, g17, g18] := by
    intro n
    induction n with
    | zero => intro x3 x4 x5 x6 f0 f4 f5 f6 f7 f13 f14 f16 g0 g2 g4 g5 g6 g12 g18 q h; exact absurd (show none = some q from h) (fun h => by cases h)
    | succ n ih =>
      intro x3 x4 x5 x6 f0 f4 f5 f6 f7 f13 f14 f16 g0 g2 g4 g5 g6 g12 g18 q h hK
      replace h : zf_Pilot_followSecond_l0_b x3 x4 x5 f1 f8 f9 f10 f11 f12 f15 f17 g1 g3 g7 g8 g9 g10 g11 g13 g14 g15 g16 g17 (zf_Pilot_followSecond_l0 x3 x4 x5 f1 f8 f9 f10 f11 f12 f15 f17 g1 g3 g7 g8 g9 g10 g11 g13 g14 g15 g16 g17 n) x6 f0 f4 f5 f6 f7 f13 f14 f16 g0 g2 g4 g5 g6 g12 g18 = some q := h
      unfold zf_Pilot_followSecond_l0_b at h
      refine zv_ild hB zd174_3 rfl rfl ?_
      refine zv_ild hB zd174_5 rfl rfl ?_
      refine zv_cgt hB zd174_7 rfl (fun hc1 => ?_) (fun hc1 => ?_)
      · rw [if_pos hc1] at h
        have hq := Option.some.inj h
        subst hq
        refine zv_wk hB (L' := [.inr 1000, .inr 1000, .inr 1000, .inr 1000, .inr 1000, .inr 1000, .inr 1000, .inr 1000, .inr 1000, .inr 1000]) (F' := [.inl f0, .inl f1, .inr 7, .inr 9, .inl f4, .inl f5, .inl f6, .inl f7, .inl f8, .inl f9, .inl f10, .inl f11, .inl f12, .inl f13, .inl f14, .inl f15, .inl f16, .inl f17]) ⟨fun (h : zv_is (.inr 1000)) => (Nat.lt_irrefl 1000 h).elim, fun (h : zv_is (.inr 1000)) => (Nat.lt_irrefl 1000 h).elim, fun (h : zv_is (.inr 1000)) => (Nat.lt_irrefl 1000 h).elim, fun (h : zv_is (.inr 1000)) => (Nat.lt_irrefl 1000 h).elim, fun (h : zv_is (.inr 1000)) => (Nat.lt_irrefl 1000 h).elim, fun (h : zv_is (.inr 1000)) => (Nat.lt_irrefl 1000 h).elim, fun (h : zv_is (.inr 1000)) => (Nat.lt_irrefl 1000 h).elim, fun (h : zv_is (.inr 1000)) => (Nat.lt_irrefl 1000 h).elim, fun (h : zv_is (.inr 1000)) => (Nat.lt_irrefl 1000 h).elim, fun (h : zv_is (.inr 1000)) => (Nat.lt_irrefl 1000 h).elim, trivial⟩ ⟨fun _ => rfl, fun _ => rfl, fun _ => rfl, fun _ => rfl, fun _ => rfl, fun _ => rfl, fun _ => rfl, fun _ => rfl, fun _ => rfl, fun _ => rfl, fun _ => rfl, fun _ => rfl, fun _ => rfl, fun _ => rfl, fun _ => rfl, fun _ => rfl, fun _ => rfl, fun _ => rfl, trivial⟩ ?_
        exact hK
      · rw [if_neg (Int.not_lt.mpr hc1)] at h
        refine zv_ald hB zd174_10 rfl rfl rfl ?_
        refine zv_getf hB zd174_11 rfl rfl (fun _ _ => ?_)
        refine zv_con hB zd174_14 rfl ?_
        refine zv_ceq hB zd174_15 rfl (fun hc2 => ?_) (fun hc2 => ?_)
        · rw [if_pos hc2] at h
          refine zv_ald hB zd174_31 rfl rfl rfl ?_
          refine zv_getr hB zd174_32 rfl ?_
          refine zv_con hB zd174_35 rfl ?_
          obtain ⟨r3, hr3, h⟩ := zi_bind h
          refine zv_cs hB (zv_emq (va2 := [.inr 3, .inl (-1)]) (F := [.inl f0, .inl f1, .inr 7, .inr 9, .inl f4, .inl f5, .inl f6, .inl f7, .inl f8, .inl f9, .inl f10, .inl f11, .inl f12, .inl f13, .inl f14, .inl f15, .inl f16, .inl f17]) (F' := [.inl f0, .inl f1, .inr 7, .inr 9, .inl f4, .inl f5, .inl f6, .inl f7, .inl f8, .inl f9, .inl f10, .inl f11, .inl f12, .inl f13, .inl f14, .inl f15, .inl f16, .inl f17]) (G := [g0, g1, g2, g3, g4, g5, g6, g7, g8, g9, g10, g11, g12, g13, g14, g15, g16, g17, g18]) (G' := [r3, g1, g2, g3, g4, g5, g6, g7, g8, g9, g10, g11, g12, g13, g14, g15, g16, g17, g18]) (ρ := [3]) (φ := []) (ψ := [0]) [none, none, none, none, none, none, none, none, none, none, none, none, none, none, none, none, none, none] [some 0, none, none, none, none, none, none, none, none, none, none, none, none, none, none, none, none, none, none] zyw_Arrays_fill_288 zyw_Pilot_followSecond zye_Pilot_followSecond (by decide +kernel) (zt_Arrays_fill_288 hr3) trivial ⟨rfl, trivial⟩ rfl rfl rfl rfl rfl rfl rfl) zd174_36 zxt78 rfl (by decide) (by decide) rfl ?_
          refine zv_con hB zd174_39 rfl ?_
          refine zv_ist hB zd174_40 rfl rfl rfl ?_
          obtain ⟨q26, hq26, h⟩ := zi_bind h
          refine l1 _ _ _ _ _ _ _ _ _ _ _ _ _ _ _ _ _ _ _ _ _ q26 hq26 ?_
          show good 213 [.inr 0, .inr 1, .inr 2, .inl x3, .inl x4, .inl x5, .inl x6, .inr 1000, .inr 1000, .inr 1000] [] [.inl q26.1, .inl f1, .inr 7, .inr 9, .inl q26.2.1, .inl q26.2.2.1, .inl f6, .inl f7, .inl f8, .inl f9, .inl f10, .inl f11, .inl f12, .inl q26.2.2.2.1, .inl q26.2.2.2.2.1, .inl f15, .inl q26.2.2.2.2.2.1, .inl f17] [q26.2.2.2.2.2.2.1, g1, q26.2.2.2.2.2.2.2.1, g3, q26.2.2.2.2.2.2.2.2.1, g5, g6, g7, g8, g9, g10, g11, q26.2.2.2.2.2.2.2.2.2, g13, g14, g15, g16, g17, g18]
          refine zv_ald hB zd174_213 rfl rfl rfl ?_
          refine zv_ald hB zd174_214 rfl rfl rfl ?_
          obtain ⟨r27, hr27, h⟩ := zi_bind h
          refine zv_cv hB (zv_emq (va2 := [.inr 0, .inr 1]) (F := [.inl q26.1, .inl f1, .inr 7, .inr 9, .inl q26.2.1, .inl q26.2.2.1, .inl f6, .inl f7, .inl f8, .inl f9, .inl f10, .inl f11, .inl f12, .inl q26.2.2.2.1, .inl q26.2.2.2.2.1, .inl f15, .inl q26.2.2.2.2.2.1, .inl f17]) (F' := [.inl q26.1, .inl f1, .inr 7, .inr 9, .inl q26.2.1, .inl q26.2.2.1, .inl r27.1, .inl r27.2.1, .inl f8, .inl f9, .inl f10, .inl f11, .inl f12, .inl r27.2.2.1, .inl q26.2.2.2.2.1, .inl f15, .inl q26.2.2.2.2.2.1, .inl f17]) (G := [q26.2.2.2.2.2.2.1, g1, q26.2.2.2.2.2.2.2.1, g3, q26.2.2.2.2.2.2.2.2.1, g5, g6, g7, g8, g9, g10, g11, q26.2.2.2.2.2.2.2.2.2, g13, g14, g15, g16, g17, g18]) (G' := [q26.2.2.2.2.2.2.1, g1, q26.2.2.2.2.2.2.2.1, g3, q26.2.2.2.2.2.2.2.2.1, r27.2.2.2.1, r27.2.2.2.2.1, g7, g8, g9, g10, g11, q26.2.2.2.2.2.2.2.2.2, g13, g14, g15, g16, g17, r27.2.2.2.2.2]) (ρ := [0, 1, 9, 10, 21, 11, 22, 7, 23]) (φ := [3, 6, 7, 2, 13]) (ψ := [5, 16, 6, 17, 18]) [none, none, some 3, some 0, none, none, some 1, some 2, none, none, none, none, none, some 4, none, none, none, none] [none, none, none, none, none, some 0, some 2, none, none, none, none, none, none, none, none, none, some 1, some 3, some 4] zyw_Pilot_turnOnward zyw_Pilot_followSecond zye_Pilot_followSecond (by decide +kernel) (zt_Pilot_turnOnward hr27) ⟨⟨_, rfl, fun _ => rfl⟩, ⟨_, rfl, fun _ => rfl⟩, ⟨_, rfl, fun _ => rfl⟩, ⟨_, rfl, fun _ => rfl⟩, ⟨_, rfl, fun _ => rfl⟩, trivial⟩ ⟨rfl, rfl, rfl, rfl, rfl, trivial⟩ rfl rfl rfl rfl rfl rfl rfl) zd174_215 zxt169 rfl (by decide) (by decide) rfl ?_
          refine zv_iincw hB zd174_218 rfl rfl ?_
          refine zv_goto hB zd174_221 rfl ?_
          exact ih _ _ _ _ _ _ _ _ _ _ _ _ _ _ _ _ _ _ _ q h hK
        · rw [if_neg hc2] at h
          refine zv_ild hB zd174_18 rfl rfl ?_
          refine zv_ald hB zd174_20 rfl rfl rfl ?_
          refine zv_getf hB zd174_21 rfl rfl (fun _ _ => ?_)
          refine zv_con hB zd174_24 rfl ?_
          refine zv_divw hB zd174_27 (by decide) ?_
          refine zv_cgt hB zd174_28 rfl (fun hc28 => ?_) (fun hc28 => ?_)
          · rw [if_pos hc28] at h
            have hq := Option.some.inj h
            subst hq
            refine zv_wk hB (L' := [.inr 1000, .inr 1000, .inr 1000, .inr 1000, .inr 1000, .inr 1000, .inr 1000, .inr 1000, .inr 1000, .inr 1000]) (F' := [.inl f0, .inl f1, .inr 7, .inr 9, .inl f4, .inl f5, .inl f6, .inl f7, .inl f8, .inl f9, .inl f10, .inl f11, .inl f12, .inl f13, .inl f14, .inl f15, .inl f16, .inl f17]) ⟨fun (h : zv_is (.inr 1000)) => (Nat.lt_irrefl 1000 h).elim, fun (h : zv_is (.inr 1000)) => (Nat.lt_irrefl 1000 h).elim, fun (h : zv_is (.inr 1000)) => (Nat.lt_irrefl 1000 h).elim, fun (h : zv_is (.inr 1000)) => (Nat.lt_irrefl 1000 h).elim, fun (h : zv_is (.inr 1000)) => (Nat.lt_irrefl 1000 h).elim, fun (h : zv_is (.inr 1000)) => (Nat.lt_irrefl 1000 h).elim, fun (h : zv_is (.inr 1000)) => (Nat.lt_irrefl 1000 h).elim, fun (h : zv_is (.inr 1000)) => (Nat.lt_irrefl 1000 h).elim, fun (h : zv_is (.inr 1000)) => (Nat.lt_irrefl 1000 h).elim, fun (h : zv_is (.inr 1000)) => (Nat.lt_irrefl 1000 h).elim, trivial⟩ ⟨fun _ => rfl, fun _ => rfl, fun _ => rfl, fun _ => rfl, fun _ => rfl, fun _ => rfl, fun _ => rfl, fun _ => rfl, fun _ => rfl, fun _ => rfl, fun _ => rfl, fun _ => rfl, fun _ => rfl, fun _ => rfl, fun _ => rfl, fun _ => rfl, fun _ => rfl, fun _ => rfl, trivial⟩ ?_
            exact hK
          · rw [if_neg (Int.not_lt.mpr hc28)] at h
            refine zv_ald hB zd174_31 rfl rfl rfl ?_
            refine zv_getr hB zd174_32 rfl ?_
            refine zv_con hB zd174_35 rfl ?_
            obtain ⟨r29, hr29, h⟩ := zi_bind h
            refine zv_cs hB (zv_emq (va2 := [.inr 3, .inl (-1)]) (F := [.inl f0, .inl f1, .inr 7, .inr 9, .inl f4, .inl f5, .inl f6, .inl f7, .inl f8, .inl f9, .inl f10, .inl f11, .inl f12, .inl f13, .inl f14, .inl f15, .inl f16, .inl f17]) (F' := [.inl f0, .inl f1, .inr 7, .inr 9, .inl f4, .inl f5, .inl f6, .inl f7, .inl f8, .inl f9, .inl f10, .inl f11, .inl f12, .inl f13, .inl f14, .inl f15, .inl f16, .inl f17]) (G := [g0, g1, g2, g3, g4, g5, g6, g7, g8, g9, g10, g11, g12, g13, g14, g15, g16, g17, g18]) (G' := [r29, g1, g2, g3, g4, g5, g6, g7, g8, g9, g10, g11, g12, g13, g14, g15, g16, g17, g18]) (ρ := [3]) (φ := []) (ψ := [0]) [none, none, none, none, none, none, none, none, none, none, none, none, none, none, none, none, none, none] [some 0, none, none, none, none, none, none, none, none, none, none, none, none, none, none, none, none, none, none] zyw_Arrays_fill_288 zyw_Pilot_followSecond zye_Pilot_followSecond (by decide +kernel) (zt_Arrays_fill_288 hr29) trivial ⟨rfl, trivial⟩ rfl rfl rfl rfl rfl rfl rfl) zd174_36 zxt78 rfl (by decide) (by decide) rfl ?_
            refine zv_con hB zd174_39 rfl ?_
            refine zv_ist hB zd174_40 rfl rfl rfl ?_
            obtain ⟨q30, hq30, h⟩ := zi_bind h
            refine l1 _ _ _ _ _ _ _ _ _ _ _ _ _ _ _ _ _ _ _ _ _ q30 hq30 ?_
            show good 213 [.inr 0, .inr 1, .inr 2, .inl x3, .inl x4, .inl x5, .inl x6, .inr 1000, .inr 1000, .inr 1000] [] [.inl q30.1, .inl f1, .inr 7, .inr 9, .inl q30.2.1, .inl q30.2.2.1, .inl f6, .inl f7, .inl f8, .inl f9, .inl f10, .inl f11, .inl f12, .inl q30.2.2.2.1, .inl q30.2.2.2.2.1, .inl f15, .inl q30.2.2.2.2.2.1, .inl f17] [q30.2.2.2.2.2.2.1, g1, q30.2.2.2.2.2.2.2.1, g3, q30.2.2.2.2.2.2.2.2.1, g5, g6, g7, g8, g9, g10, g11, q30.2.2.2.2.2.2.2.2.2, g13, g14, g15, g16, g17, g18]
            refine zv_ald hB zd174_213 rfl rfl rfl ?_
            refine zv_ald hB zd174_214 rfl rfl rfl ?_
            obtain ⟨r31, hr31, h⟩ := zi_bind h
            refine zv_cv hB (zv_emq (va2 := [.inr 0, .inr 1]) (F := [.inl q30.1, .inl f1, .inr 7, .inr 9, .inl q30.2.1, .inl q30.2.2.1, .inl f6, .inl f7, .inl f8, .inl f9, .inl f10, .inl f11, .inl f12, .inl q30.2.2.2.1, .inl q30.2.2.2.2.1, .inl f15, .inl q30.2.2.2.2.2.1, .inl f17]) (F' := [.inl q30.1, .inl f1, .inr 7, .inr 9, .inl q30.2.1, .inl q30.2.2.1, .inl r31.1, .inl r31.2.1, .inl f8, .inl f9, .inl f10, .inl f11, .inl f12, .inl r31.2.2.1, .inl q30.2.2.2.2.1, .inl f15, .inl q30.2.2.2.2.2.1, .inl f17]) (G := [q30.2.2.2.2.2.2.1, g1, q30.2.2.2.2.2.2.2.1, g3, q30.2.2.2.2.2.2.2.2.1, g5, g6, g7, g8, g9, g10, g11, q30.2.2.2.2.2.2.2.2.2, g13, g14, g15, g16, g17, g18]) (G' := [q30.2.2.2.2.2.2.1, g1, q30.2.2.2.2.2.2.2.1, g3, q30.2.2.2.2.2.2.2.2.1, r31.2.2.2.1, r31.2.2.2.2.1, g7, g8, g9, g10, g11, q30.2.2.2.2.2.2.2.2.2, g13, g14, g15, g16, g17, r31.2.2.2.2.2]) (ρ := [0, 1, 9, 10, 21, 11, 22, 7, 23]) (φ := [3, 6, 7, 2, 13]) (ψ := [5, 16, 6, 17, 18]) [none, none, some 3, some 0, none, none, some 1, some 2, none, none, none, none, none, some 4, none, none, none, none] [none, none, none, none, none, some 0, some 2, none, none, none, none, none, none, none, none, none, some 1, some 3, some 4] zyw_Pilot_turnOnward zyw_Pilot_followSecond zye_Pilot_followSecond (by decide +kernel) (zt_Pilot_turnOnward hr31) ⟨⟨_, rfl, fun _ => rfl⟩, ⟨_, rfl, fun _ => rfl⟩, ⟨_, rfl, fun _ => rfl⟩, ⟨_, rfl, fun _ => rfl⟩, ⟨_, rfl, fun _ => rfl⟩, trivial⟩ ⟨rfl, rfl, rfl, rfl, rfl, trivial⟩ rfl rfl rfl rfl rfl rfl rfl) zd174_215 zxt169 rfl (by decide) (by decide) rfl ?_
            refine zv_iincw hB zd174_218 rfl rfl ?_
            refine zv_goto hB zd174_221 rfl ?_
            exact ih _ _ _ _ _ _ _ _ _ _ _ _ _ _ _ _ _ _ _ q h hK
  unfold zf_Pilot_followSecond at h
  refine zv_con hB zd174_0 rfl ?_
  refine zv_ist hB zd174_1 rfl rfl rfl ?_
  obtain ⟨q32, hq32, h⟩ := zi_bind h
  refine l0 _ _ _ _ _ _ _ _ _ _ _ _ _ _ _ _ _ _ _ _ q32 hq32 ?_
  show good 224 [.inr 1000, .inr 1000, .inr 1000, .inr 1000, .inr 1000, .inr 1000, .inr 1000, .inr 1000, .inr 1000, .inr 1000] [] [.inl q32.1, .inl f1, .inr 7, .inr 9, .inl q32.2.1, .inl q32.2.2.1, .inl q32.2.2.2.1, .inl q32.2.2.2.2.1, .inl f8, .inl f9, .inl f10, .inl f11, .inl f12, .inl q32.2.2.2.2.2.1, .inl q32.2.2.2.2.2.2.1, .inl f15, .inl q32.2.2.2.2.2.2.2.1, .inl f17] [q32.2.2.2.2.2.2.2.2.1, g1, q32.2.2.2.2.2.2.2.2.2.1, g3, q32.2.2.2.2.2.2.2.2.2.2.1, q32.2.2.2.2.2.2.2.2.2.2.2.1, q32.2.2.2.2.2.2.2.2.2.2.2.2.1, g7, g8, g9, g10, g11, q32.2.2.2.2.2.2.2.2.2.2.2.2.2.1, g13, g14, g15, g16, g17, q32.2.2.2.2.2.2.2.2.2.2.2.2.2.2]
  have hw := Option.some.inj h
  subst hw
  exact hvret _ _ _ _ zd174_224 trivial ⟨rfl, rfl, rfl⟩
end
section
/-! Methods as functions, and that they do what these do. -/
/-! Pilot_findByTwo (LStarTales$View;LStarTales$Sea;LStarTales$Sky;III)Z -/
-- names: 0 Pilot('arg', 0), 1 View('arg', 1), 2 Sea('arg', 2), 3 Sky('arg', 3), 4 (0, 24)(0, 9, 4), 5 Sky(1, 7, 0), 6 Law(1, 7, 1), 7 (0, 13)(6, 4, 12), 8 (0, 24)(5, 1, 1), 9 (0, 24)(5, 1, 2), 10 (0, 24)(5, 1, 3), 11 (0, 14)(6, 4, 3), 12 (0, 14)(6, 4, 5), 13 (0, 14)(6, 4, 6), 14 (0, 200)(6, 4, 0), 15 (0, 40)(6, 4, 13), 16 (0, 200)(6, 4, 1), 17 (0, 12)(2, 2, 0), 18 (0, 264)(0, 9, 5), 19 (0, 264)(0, 9, 6), 20 (0, 264)(0, 9, 7), 21 (0, 24)(5, 1, 4), 22 (0, 24)(5, 1, 5), 23 (0, 24)(1, 7, 8), 24 (0, 24)(3, 1, 1), 25 (0, 24)(3, 1, 2), 26 (0, 24)(3, 1, 3), 27 (0, 24)(3, 1, 4), 28 (0, 24)(3, 1, 5), 29 (0, 288)(0, 9, 11), 30 (0, 264)(0, 9, 8)
-- fields: f0 = 0.legs_, f1 = 1.sky_, f2 = 1.law_, f3 = 5.told_, f4 = 1.x_, f5 = 1.y_, f6 = 5.hour_, f7 = 5.night_, f8 = 5.sightColumns_, f9 = 5.sightRows_, f10 = 5.clouds_, f11 = 6.tellsSeen_, f12 = 1.starsAsked_, f13 = 1.starsHold_, f14 = 6.clauses_, f15 = 6.answer_, f16 = 6.seenByPlace_, f17 = 3.told_, f18 = 0.best_, f19 = 3.hour_, f20 = 3.night_, f21 = 3.clouds_, f22 = 3.sightColumns_, f23 = 3.sightRows_, f24 = 3.chance_, f25 = 5.chance_, f26 = 0.hoursTaken_, f27 = 0.firstStar_, f28 = 0.turn_, f29 = 0.secondStar_; arrays: g0 = 4, g1 = 7, g2 = 8, g3 = 9, g4 = 10, g5 = 11, g6 = 12, g7 = 13, g8 = 14, g9 = 15, g10 = 16, g11 = 17, g12 = 18, g13 = 19, g14 = 20, g15 = 21, g16 = 22, g17 = 23, g18 = 24, g19 = 25, g20 = 26, g21 = 27, g22 = 28, g23 = 29, g24 = 30; out: [('ret', None), ('f', 0), ('f', 3), ('f', 4), ('f', 5), ('f', 6), ('f', 7), ('f', 8), ('f', 9), ('f', 10), ('f', 12), ('f', 13), ('f', 15), ('f', 18), ('f', 25), ('f', 26), ('f', 27), ('f', 28), ('f', 29), ('g', 0), ('g', 1), ('g', 2), ('g', 3), ('g', 4), ('g', 9), ('g', 12), ('g', 13), ('g', 14), ('g', 15), ('g', 16), ('g', 17), ('g', 23), ('g', 24)]
abbrev zy_Pilot_findByTwo : zNL := (31, [(0, 9), (1, 7), (2, 2), (3, 1), (5, 1), (6, 4)], [(0, 9, 9, 0), (1, 7, 0, 1), (1, 7, 1, 2), (5, 1, 0, 3), (1, 7, 2, 4), (1, 7, 3, 5), (5, 1, 6, 6), (5, 1, 7, 7), (5, 1, 9, 8), (5, 1, 10, 9), (5, 1, 8, 10), (6, 4, 8, 11), (1, 7, 6, 12), (1, 7, 7, 13), (6, 4, 7, 14), (6, 4, 14, 15), (6, 4, 10, 16), (3, 1, 0, 17), (0, 9, 10, 18), (3, 1, 6, 19), (3, 1, 7, 20), (3, 1, 8, 21), (3, 1, 9, 22), (3, 1, 10, 23), (3, 1, 11, 24), (5, 1, 11, 25), (0, 9, 0, 26), (0, 9, 1, 27), (0, 9, 2, 28), (0, 9, 3, 29)], [(0, 9, 4, 4), (6, 4, 12, 7), (5, 1, 1, 8), (5, 1, 2, 9), (5, 1, 3, 10), (6, 4, 3, 11), (6, 4, 5, 12), (6, 4, 6, 13), (6, 4, 0, 14), (6, 4, 13, 15), (6, 4, 1, 16), (2, 2, 0, 17), (0, 9, 5, 18), (0, 9, 6, 19), (0, 9, 7, 20), (5, 1, 4, 21), (5, 1, 5, 22), (1, 7, 8, 23), (3, 1, 1, 24), (3, 1, 2, 25), (3, 1, 3, 26), (3, 1, 4, 27), (3, 1, 5, 28), (0, 9, 11, 29), (0, 9, 8, 30)], [(4, 0, 24, 0), (7, 0, 13, 1), (8, 0, 24, 2), (9, 0, 24, 3), (10, 0, 24, 4), (11, 0, 14, 5), (12, 0, 14, 6), (13, 0, 14, 7), (14, 0, 200, 8), (15, 0, 40, 9), (16, 0, 200, 10), (17, 0, 12, 11), (18, 0, 264, 12), (19, 0, 264, 13), (20, 0, 264, 14), (21, 0, 24, 15), (22, 0, 24, 16), (23, 0, 24, 17), (24, 0, 24, 18), (25, 0, 24, 19), (26, 0, 24, 20), (27, 0, 24, 21), (28, 0, 24, 22), (29, 0, 288, 23), (30, 0, 264, 24)])
theorem zyw_Pilot_findByTwo : zv_wf zy_Pilot_findByTwo = true := by decide +kernel
theorem zye_Pilot_findByTwo : zv_ek2 zy_Pilot_findByTwo = true := by decide +kernel
def zf_Pilot_findByTwo_l0_b (x6 : Int) (f3 : Int) (f8 : Int) (f9 : Int) (f10 : Int) (f11 : Int) (f14 : Int) (f16 : Int) (f17 : Int) (g4 : (Int → Int)) (g5 : (Int → Int)) (g6 : (Int → Int)) (g7 : (Int → Int)) (g8 : (Int → Int)) (g10 : (Int → Int)) (g11 : (Int → Int)) (g15 : (Int → Int)) (g16 : (Int → Int)) (rec : Int → Int → Int → Int → Int → Int → Int → Int → Int → (Int → Int) → (Int → Int) → (Int → Int) → (Int → Int) → (Int → Int) → (Int → Int) → (Int → Int) → (Int → Int) → (Int → Int) → Option (Int × Int × Int × Int × Int × Int × Int × Int × (Int → Int) × (Int → Int) × (Int → Int) × (Int → Int) × (Int → Int) × (Int → Int) × (Int → Int) × (Int → Int) × (Int → Int))) (x7 : Int) (f0 : Int) (f4 : Int) (f5 : Int) (f6 : Int) (f7 : Int) (f12 : Int) (f13 : Int) (f15 : Int) (g0 : (Int → Int)) (g1 : (Int → Int)) (g2 : (Int → Int)) (g3 : (Int → Int)) (g9 : (Int → Int)) (g12 : (Int → Int)) (g13 : (Int → Int)) (g14 : (Int → Int)) (g17 : (Int → Int)) : Option (Int × Int × Int × Int × Int × Int × Int × Int × (Int → Int) × (Int → Int) × (Int → Int) × (Int → Int) × (Int → Int) × (Int → Int) × (Int → Int) × (Int → Int) × (Int → Int)) := if x7 < x6 then ((zf_Pilot_stepFirstLegs f3 f4 f5 f6 f7 f8 f9 f10 f11 f12 f13 f14 f15 f16 g0 g1 g2 g3 g4 g5 g6 g7 g8 g9 g10 g11).bind fun r3 => ((zf_Pilot_endFirstLegs x7 f17 f0 r3.2.2.2.2.2.1 g12 g13 g14).bind fun r4 => ((zf_Pilot_turnOnward f6 f7 r3.2.2.1 g2 g15 g3 g16 g17).bind fun r5 => (rec (zi_w (x7 + 1)) r4.1 r3.1 r3.2.1 r5.1 r5.2.1 r5.2.2.1 r3.2.2.2.1 r3.2.2.2.2.1 r3.2.2.2.2.2.1 r3.2.2.2.2.2.2.1 r5.2.2.2.1 r5.2.2.2.2.1 r3.2.2.2.2.2.2.2 r4.2.1 r4.2.2.1 r4.2.2.2 r5.2.2.2.2.2)))) else (some (f0, f4, f5, f6, f7, f12, f13, f15, g0, g1, g2, g3, g9, g12, g13, g14, g17))
def zf_Pilot_findByTwo_l0 (x6 : Int) (f3 : Int) (f8 : Int) (f9 : Int) (f10 : Int) (f11 : Int) (f14 : Int) (f16 : Int) (f17 : Int) (g4 : (Int → Int)) (g5 : (Int → Int)) (g6 : (Int → Int)) (g7 : (Int → Int)) (g8 : (Int → Int)) (g10 : (Int → Int)) (g11 : (Int → Int)) (g15 : (Int → Int)) (g16 : (Int → Int)) : Nat → Int → Int → Int → Int → Int → Int → Int → Int → Int → (Int → Int) → (Int → Int) → (Int → Int) → (Int → Int) → (Int → Int) → (Int → Int) → (Int → Int) → (Int → Int) → (Int → Int) → Option (Int × Int × Int × Int × Int × Int × Int × Int × (Int → Int) × (Int → Int) × (Int → Int) × (Int → Int) × (Int → Int) × (Int → Int) × (Int → Int) × (Int → Int) × (Int → Int))
  | 0, _, _, _, _, _, _, _, _, _, _, _, _, _, _, _, _, _, _ => none
  | n + 1, x7, f0, f4, f5, f6, f7, f12, f13, f15, g0, g1, g2, g3, g9, g12, g13, g14, g17 => zf_Pilot_findByTwo_l0_b x6 f3 f8 f9 f10 f11 f14 f16 f17 g4 g5 g6 g7 g8 g10 g11 g15 g16 (zf_Pilot_findByTwo_l0 x6 f3 f8 f9 f10 f11 f14 f16 f17 g4 g5 g6 g7 g8 g10 g11 g15 g16 n) x7 f0 f4 f5 f6 f7 f12 f13 f15 g0 g1 g2 g3 g9 g12 g13 g14 g17
def zf_Pilot_findByTwo_l1_b (x5 : Int) (x6 : Int) (f0 : Int) (f11 : Int) (f14 : Int) (f16 : Int) (f17 : Int) (f19 : Int) (f20 : Int) (f21 : Int) (f22 : Int) (f23 : Int) (f24 : Int) (g5 : (Int → Int)) (g6 : (Int → Int)) (g7 : (Int → Int)) (g8 : (Int → Int)) (g10 : (Int → Int)) (g11 : (Int → Int)) (g12 : (Int → Int)) (g13 : (Int → Int)) (g14 : (Int → Int)) (g18 : (Int → Int)) (g19 : (Int → Int)) (g20 : (Int → Int)) (g21 : (Int → Int)) (g22 : (Int → Int)) (rec : Int → Int → Int → Int → Int → Int → Int → Int → Int → Int → Int → Int → Int → Int → (Int → Int) → (Int → Int) → (Int → Int) → (Int → Int) → (Int → Int) → (Int → Int) → (Int → Int) → (Int → Int) → (Int → Int) → (Int → Int) → Option (Int × Int × Int × Int × Int × Int × Int × Int × Int × Int × Int × Int × Int × (Int → Int) × (Int → Int) × (Int → Int) × (Int → Int) × (Int → Int) × (Int → Int) × (Int → Int) × (Int → Int) × (Int → Int) × (Int → Int))) (x7 : Int) (f3 : Int) (f4 : Int) (f5 : Int) (f6 : Int) (f7 : Int) (f8 : Int) (f9 : Int) (f10 : Int) (f12 : Int) (f13 : Int) (f15 : Int) (f18 : Int) (f25 : Int) (g1 : (Int → Int)) (g2 : (Int → Int)) (g3 : (Int → Int)) (g4 : (Int → Int)) (g9 : (Int → Int)) (g15 : (Int → Int)) (g16 : (Int → Int)) (g17 : (Int → Int)) (g23 : (Int → Int)) (g24 : (Int → Int)) : Option (Int × Int × Int × Int × Int × Int × Int × Int × Int × Int × Int × Int × Int × (Int → Int) × (Int → Int) × (Int → Int) × (Int → Int) × (Int → Int) × (Int → Int) × (Int → Int) × (Int → Int) × (Int → Int) × (Int → Int)) := if x7 < 24 then ((zf_Sky_hasStar x7 f17).bind fun r8 => (if r8 = 0 then (rec (zi_w (x7 + 1)) f3 f4 f5 f6 f7 f8 f9 f10 f12 f13 f15 f18 f25 g1 g2 g3 g4 g9 g15 g16 g17 g23 g24) else ((zf_Sky_copyFrom f17 f3 f19 f6 f20 f7 f21 f10 f22 f8 f23 f9 f24 f25 g18 g2 g19 g3 g20 g4 g21 g15 g22 g16).bind fun r10 => ((zf_View_open f12 g17).bind fun r11 => ((zf_Pilot_followSecond x7 x5 x6 f18 f0 f4 f5 r10.2.1 r10.2.2.1 r10.1 r10.2.2.2.2.1 r10.2.2.2.2.2.1 r10.2.2.2.1 f11 r11.1 f13 f14 f15 f16 g23 g13 g24 g12 g1 r10.2.2.2.2.2.2.2.1 r10.2.2.2.2.2.2.2.2.1 r10.2.2.2.2.2.2.2.2.2.1 g5 g6 g7 g8 g9 g10 g11 g14 r10.2.2.2.2.2.2.2.2.2.2.1 r10.2.2.2.2.2.2.2.2.2.2.2 r11.2).bind fun r12 => (rec (zi_w (x7 + 1)) r10.1 r12.2.1 r12.2.2.1 r12.2.2.2.1 r12.2.2.2.2.1 r10.2.2.2.2.1 r10.2.2.2.2.2.1 r10.2.2.2.1 r12.2.2.2.2.2.1 r12.2.2.2.2.2.2.1 r12.2.2.2.2.2.2.2.1 r12.1 r10.2.2.2.2.2.2.1 r12.2.2.2.2.2.2.2.2.2.2.1 r12.2.2.2.2.2.2.2.2.2.2.2.1 r12.2.2.2.2.2.2.2.2.2.2.2.2.1 r10.2.2.2.2.2.2.2.2.2.1 r12.2.2.2.2.2.2.2.2.2.2.2.2.2.1 r10.2.2.2.2.2.2.2.2.2.2.1 r10.2.2.2.2.2.2.2.2.2.2.2 r12.2.2.2.2.2.2.2.2.2.2.2.2.2.2 r12.2.2.2.2.2.2.2.2.1 r12.2.2.2.2.2.2.2.2.2.1)))))) else (some (f3, f4, f5, f6, f7, f8, f9, f10, f12, f13, f15, f18, f25, g1, g2, g3, g4, g9, g15, g16, g17, g23, g24))
def zf_Pilot_findByTwo_l1 (x5 : Int) (x6 : Int) (f0 : Int) (f11 : Int) (f14 : Int) (f16 : Int) (f17 : Int) (f19 : Int) (f20 : Int) (f21 : Int) (f22 : Int) (f23 : Int) (f24 : Int) (g5 : (Int → Int)) (g6 : (Int → Int)) (g7 : (Int → Int)) (g8 : (Int → Int)) (g10 : (Int → Int)) (g11 : (Int → Int)) (g12 : (Int → Int)) (g13 : (Int → Int)) (g14 : (Int → Int)) (g18 : (Int → Int)) (g19 : (Int → Int)) (g20 : (Int → Int)) (g21 : (Int → Int)) (g22 : (Int → Int)) : Nat → Int → Int → Int → Int → Int → Int → Int → Int → Int → Int → Int → Int → Int → Int → (Int → Int) → (Int → Int) → (Int → Int) → (Int → Int) → (Int → Int) → (Int → Int) → (Int → Int) → (Int → Int) → (Int → Int) → (Int → Int) → Option (Int × Int × Int × Int × Int × Int × Int × Int × Int × Int × Int × Int × Int × (Int → Int) × (Int → Int) × (Int → Int) × (Int → Int) × (Int → Int) × (Int → Int) × (Int → Int) × (Int → Int) × (Int → Int) × (Int → Int))
  | 0, _, _, _, _, _, _, _, _, _, _, _, _, _, _, _, _, _, _, _, _, _, _, _, _ => none
  | n + 1, x7, f3, f4, f5, f6, f7, f8, f9, f10, f12, f13, f15, f18, f25, g1, g2, g3, g4, g9, g15, g16, g17, g23, g24 => zf_Pilot_findByTwo_l1_b x5 x6 f0 f11 f14 f16 f17 f19 f20 f21 f22 f23 f24 g5 g6 g7 g8 g10 g11 g12 g13 g14 g18 g19 g20 g21 g22 (zf_Pilot_findByTwo_l1 x5 x6 f0 f11 f14 f16 f17 f19 f20 f21 f22 f23 f24 g5 g6 g7 g8 g10 g11 g12 g13 g14 g18 g19 g20 g21 g22 n) x7 f3 f4 f5 f6 f7 f8 f9 f10 f12 f13 f15 f18 f25 g1 g2 g3 g4 g9 g15 g16 g17 g23 g24
def zf_Pilot_findByTwo (x4 : Int) (x5 : Int) (x6 : Int) (f0 : Int) (f3 : Int) (f4 : Int) (f5 : Int) (f6 : Int) (f7 : Int) (f8 : Int) (f9 : Int) (f10 : Int) (f11 : Int) (f12 : Int) (f13 : Int) (f14 : Int) (f15 : Int) (f16 : Int) (f17 : Int) (f18 : Int) (f19 : Int) (f20 : Int) (f21 : Int) (f22 : Int) (f23 : Int) (f24 : Int) (f25 : Int) (f26 : Int) (f27 : Int) (f28 : Int) (f29 : Int) (g0 : (Int → Int)) (g1 : (Int → Int)) (g2 : (Int → Int)) (g3 : (Int → Int)) (g4 : (Int → Int)) (g5 : (Int → Int)) (g6 : (Int → Int)) (g7 : (Int → Int)) (g8 : (Int → Int)) (g9 : (Int → Int)) (g10 : (Int → Int)) (g11 : (Int → Int)) (g12 : (Int → Int)) (g13 : (Int → Int)) (g14 : (Int → Int)) (g15 : (Int → Int)) (g16 : (Int → Int)) (g17 : (Int → Int)) (g18 : (Int → Int)) (g19 : (Int → Int)) (g20 : (Int → Int)) (g21 : (Int → Int)) (g22 : (Int → Int)) (g23 : (Int → Int)) (g24 : (Int → Int)) : Option (Int × Int × Int × Int × Int × Int × Int × Int × Int × Int × Int × Int × Int × Int × Int × Int × Int × Int × Int × (Int → Int) × (Int → Int) × (Int → Int) × (Int → Int) × (Int → Int) × (Int → Int) × (Int → Int) × (Int → Int) × (Int → Int) × (Int → Int) × (Int → Int) × (Int → Int) × (Int → Int) × (Int → Int)) := (zf_Arrays_fill_24 x4 g0).bind fun r1 => ((zf_Pilot_findByTwo_l0 x6 f3 f8 f9 f10 f11 f14 f16 f17 g4 g5 g6 g7 g8 g10 g11 g15 g16 zi_fu 1 0 f4 f5 f6 f7 f12 f13 f15 r1 g1 g2 g3 g9 g12 g13 g14 g17).bind fun q6 => ((zf_Pilot_findByTwo_l1 x5 x6 q6.1 f11 f14 f16 f17 f19 f20 f21 f22 f23 f24 g5 g6 g7 g8 g10 g11 q6.2.2.2.2.2.2.2.2.2.2.2.2.2.1 q6.2.2.2.2.2.2.2.2.2.2.2.2.2.2.1 q6.2.2.2.2.2.2.2.2.2.2.2.2.2.2.2.1 g18 g19 g20 g21 g22 zi_fu 0 f3 q6.2.1 q6.2.2.1 q6.2.2.2.1 q6.2.2.2.2.1 f8 f9 f10 q6.2.2.2.2.2.1 q6.2.2.2.2.2.2.1 q6.2.2.2.2.2.2.2.1 (-1) f25 q6.2.2.2.2.2.2.2.2.2.1 q6.2.2.2.2.2.2.2.2.2.2.1 q6.2.2.2.2.2.2.2.2.2.2.2.1 g4 q6.2.2.2.2.2.2.2.2.2.2.2.2.1 g15 g16 q6.2.2.2.2.2.2.2.2.2.2.2.2.2.2.2.2 g23 g24).bind fun q13 => (if q13.2.2.2.2.2.2.2.2.2.2.2.1 = (-1) then (some (0, q6.1, q13.1, q13.2.1, q13.2.2.1, q13.2.2.2.1, q13.2.2.2.2.1, q13.2.2.2.2.2.1, q13.2.2.2.2.2.2.1, q13.2.2.2.2.2.2.2.1, q13.2.2.2.2.2.2.2.2.1, q13.2.2.2.2.2.2.2.2.2.1, q13.2.2.2.2.2.2.2.2.2.2.1, q13.2.2.2.2.2.2.2.2.2.2.2.1, q13.2.2.2.2.2.2.2.2.2.2.2.2.1, f26, f27, f28, f29, q6.2.2.2.2.2.2.2.2.1, q13.2.2.2.2.2.2.2.2.2.2.2.2.2.1, q13.2.2.2.2.2.2.2.2.2.2.2.2.2.2.1, q13.2.2.2.2.2.2.2.2.2.2.2.2.2.2.2.1, q13.2.2.2.2.2.2.2.2.2.2.2.2.2.2.2.2.1, q13.2.2.2.2.2.2.2.2.2.2.2.2.2.2.2.2.2.1, q6.2.2.2.2.2.2.2.2.2.2.2.2.2.1, q6.2.2.2.2.2.2.2.2.2.2.2.2.2.2.1, q6.2.2.2.2.2.2.2.2.2.2.2.2.2.2.2.1, q13.2.2.2.2.2.2.2.2.2.2.2.2.2.2.2.2.2.2.1, q13.2.2.2.2.2.2.2.2.2.2.2.2.2.2.2.2.2.2.2.1, q13.2.2.2.2.2.2.2.2.2.2.2.2.2.2.2.2.2.2.2.2.1, q13.2.2.2.2.2.2.2.2.2.2.2.2.2.2.2.2.2.2.2.2.2.1, q13.2.2.2.2.2.2.2.2.2.2.2.2.2.2.2.2.2.2.2.2.2.2)) else (some (1, q6.1, q13.1, q13.2.1, q13.2.2.1, q13.2.2.2.1, q13.2.2.2.2.1, q13.2.2.2.2.2.1, q13.2.2.2.2.2.2.1, q13.2.2.2.2.2.2.2.1, q13.2.2.2.2.2.2.2.2.1, q13.2.2.2.2.2.2.2.2.2.1, q13.2.2.2.2.2.2.2.2.2.2.1, q13.2.2.2.2.2.2.2.2.2.2.2.1, q13.2.2.2.2.2.2.2.2.2.2.2.2.1, (zi_div q13.2.2.2.2.2.2.2.2.2.2.2.1 6912), (zi_rem (zi_div q13.2.2.2.2.2.2.2.2.2.2.2.1 288) 24), (zi_rem (zi_div q13.2.2.2.2.2.2.2.2.2.2.2.1 24) 12), (zi_rem q13.2.2.2.2.2.2.2.2.2.2.2.1 24), q6.2.2.2.2.2.2.2.2.1, q13.2.2.2.2.2.2.2.2.2.2.2.2.2.1, q13.2.2.2.2.2.2.2.2.2.2.2.2.2.2.1, q13.2.2.2.2.2.2.2.2.2.2.2.2.2.2.2.1, q13.2.2.2.2.2.2.2.2.2.2.2.2.2.2.2.2.1, q13.2.2.2.2.2.2.2.2.2.2.2.2.2.2.2.2.2.1, q6.2.2.2.2.2.2.2.2.2.2.2.2.2.1, q6.2.2.2.2.2.2.2.2.2.2.2.2.2.2.1, q6.2.2.2.2.2.2.2.2.2.2.2.2.2.2.2.1, q13.2.2.2.2.2.2.2.2.2.2.2.2.2.2.2.2.2.2.1, q13.2.2.2.2.2.2.2.2.2.2.2.2.2.2.2.2.2.2.2.1, q13.2.2.2.2.2.2.2.2.2.2.2.2.2.2.2.2.2.2.2.2.1, q13.2.2.2.2.2.2.2.2.2.2.2.2.2.2.2.2.2.2.2.2.2.1, q13.2.2.2.2.2.2.2.2.2.2.2.2.2.2.2.2.2.2.2.2.2.2)))))
theorem zd171_0 : decode zxm171.2.1 0 = .ok (.aload_n 0, 1) := by decide +kernel
theorem zd171_1 : decode zxm171.2.1 1 = .ok (.iconst 0, 1) := by decide +kernel
theorem zd171_2 : decode zxm171.2.1 2 = .ok (.putfield 40, 3) := by decide +kernel
theorem zd171_5 : decode zxm171.2.1 5 = .ok (.aload_n 0, 1) := by decide +kernel
theorem zd171_6 : decode zxm171.2.1 6 = .ok (.getfield 24, 3) := by decide +kernel
theorem zd171_9 : decode zxm171.2.1 9 = .ok (.iload 4, 2) := by decide +kernel
theorem zd171_11 : decode zxm171.2.1 11 = .ok (.invokestatic 110, 3) := by decide +kernel
theorem zd171_14 : decode zxm171.2.1 14 = .ok (.iconst 1, 1) := by decide +kernel
theorem zd171_15 : decode zxm171.2.1 15 = .ok (.istore 7, 2) := by decide +kernel
theorem zd171_17 : decode zxm171.2.1 17 = .ok (.iload 7, 2) := by decide +kernel
theorem zd171_19 : decode zxm171.2.1 19 = .ok (.iload 6, 2) := by decide +kernel
theorem zd171_21 : decode zxm171.2.1 21 = .ok (.if_icmp .ge 27, 3) := by decide +kernel
theorem zd171_24 : decode zxm171.2.1 24 = .ok (.aload_n 0, 1) := by decide +kernel
theorem zd171_25 : decode zxm171.2.1 25 = .ok (.aload_n 1, 1) := by decide +kernel
theorem zd171_26 : decode zxm171.2.1 26 = .ok (.aload_n 2, 1) := by decide +kernel
theorem zd171_27 : decode zxm171.2.1 27 = .ok (.invokevirtual 116, 3) := by decide +kernel
theorem zd171_30 : decode zxm171.2.1 30 = .ok (.aload_n 0, 1) := by decide +kernel
theorem zd171_31 : decode zxm171.2.1 31 = .ok (.aload_n 3, 1) := by decide +kernel
theorem zd171_32 : decode zxm171.2.1 32 = .ok (.iload 7, 2) := by decide +kernel
theorem zd171_34 : decode zxm171.2.1 34 = .ok (.invokevirtual 127, 3) := by decide +kernel
theorem zd171_37 : decode zxm171.2.1 37 = .ok (.aload_n 0, 1) := by decide +kernel
theorem zd171_38 : decode zxm171.2.1 38 = .ok (.aload_n 1, 1) := by decide +kernel
theorem zd171_39 : decode zxm171.2.1 39 = .ok (.invokevirtual 123, 3) := by decide +kernel
theorem zd171_42 : decode zxm171.2.1 42 = .ok (.iinc 7 1, 3) := by decide +kernel
theorem zd171_45 : decode zxm171.2.1 45 = .ok (.goto (-28), 3) := by decide +kernel
theorem zd171_48 : decode zxm171.2.1 48 = .ok (.aload_n 0, 1) := by decide +kernel
theorem zd171_49 : decode zxm171.2.1 49 = .ok (.iconst (-1), 1) := by decide +kernel
theorem zd171_50 : decode zxm171.2.1 50 = .ok (.putfield 43, 3) := by decide +kernel
theorem zd171_53 : decode zxm171.2.1 53 = .ok (.iconst 0, 1) := by decide +kernel
theorem zd171_54 : decode zxm171.2.1 54 = .ok (.istore 7, 2) := by decide +kernel
theorem zd171_56 : decode zxm171.2.1 56 = .ok (.iload 7, 2) := by decide +kernel
theorem zd171_58 : decode zxm171.2.1 58 = .ok (.bipush 24, 2) := by decide +kernel
theorem zd171_60 : decode zxm171.2.1 60 = .ok (.if_icmp .ge 50, 3) := by decide +kernel
theorem zd171_63 : decode zxm171.2.1 63 = .ok (.aload_n 3, 1) := by decide +kernel
theorem zd171_64 : decode zxm171.2.1 64 = .ok (.iload 7, 2) := by decide +kernel
theorem zd171_66 : decode zxm171.2.1 66 = .ok (.invokevirtual 120, 3) := by decide +kernel
theorem zd171_69 : decode zxm171.2.1 69 = .ok (.ifCond .eq 35, 3) := by decide +kernel
theorem zd171_72 : decode zxm171.2.1 72 = .ok (.aload_n 1, 1) := by decide +kernel
theorem zd171_73 : decode zxm171.2.1 73 = .ok (.getfield 75, 3) := by decide +kernel
theorem zd171_76 : decode zxm171.2.1 76 = .ok (.aload_n 3, 1) := by decide +kernel
theorem zd171_77 : decode zxm171.2.1 77 = .ok (.invokevirtual 131, 3) := by decide +kernel
theorem zd171_80 : decode zxm171.2.1 80 = .ok (.aload_n 1, 1) := by decide +kernel
theorem zd171_81 : decode zxm171.2.1 81 = .ok (.aload_n 1, 1) := by decide +kernel
theorem zd171_82 : decode zxm171.2.1 82 = .ok (.getfield 75, 3) := by decide +kernel
theorem zd171_85 : decode zxm171.2.1 85 = .ok (.aload_n 1, 1) := by decide +kernel
theorem zd171_86 : decode zxm171.2.1 86 = .ok (.getfield 135, 3) := by decide +kernel
theorem zd171_89 : decode zxm171.2.1 89 = .ok (.invokevirtual 139, 3) := by decide +kernel
theorem zd171_92 : decode zxm171.2.1 92 = .ok (.aload_n 0, 1) := by decide +kernel
theorem zd171_93 : decode zxm171.2.1 93 = .ok (.aload_n 1, 1) := by decide +kernel
theorem zd171_94 : decode zxm171.2.1 94 = .ok (.aload_n 2, 1) := by decide +kernel
theorem zd171_95 : decode zxm171.2.1 95 = .ok (.iload 7, 2) := by decide +kernel
theorem zd171_97 : decode zxm171.2.1 97 = .ok (.iload 5, 2) := by decide +kernel
theorem zd171_99 : decode zxm171.2.1 99 = .ok (.iload 6, 2) := by decide +kernel
theorem zd171_101 : decode zxm171.2.1 101 = .ok (.invokevirtual 143, 3) := by decide +kernel
theorem zd171_104 : decode zxm171.2.1 104 = .ok (.iinc 7 1, 3) := by decide +kernel
theorem zd171_107 : decode zxm171.2.1 107 = .ok (.goto (-51), 3) := by decide +kernel
theorem zd171_110 : decode zxm171.2.1 110 = .ok (.aload_n 0, 1) := by decide +kernel
theorem zd171_111 : decode zxm171.2.1 111 = .ok (.getfield 43, 3) := by decide +kernel
theorem zd171_114 : decode zxm171.2.1 114 = .ok (.iconst (-1), 1) := by decide +kernel
theorem zd171_115 : decode zxm171.2.1 115 = .ok (.if_icmp .ne 5, 3) := by decide +kernel
theorem zd171_118 : decode zxm171.2.1 118 = .ok (.iconst 0, 1) := by decide +kernel
theorem zd171_119 : decode zxm171.2.1 119 = .ok (.ireturn, 1) := by decide +kernel
theorem zd171_120 : decode zxm171.2.1 120 = .ok (.aload_n 0, 1) := by decide +kernel
theorem zd171_121 : decode zxm171.2.1 121 = .ok (.aload_n 0, 1) := by decide +kernel
theorem zd171_122 : decode zxm171.2.1 122 = .ok (.getfield 43, 3) := by decide +kernel
theorem zd171_125 : decode zxm171.2.1 125 = .ok (.sipush 6912, 3) := by decide +kernel
theorem zd171_128 : decode zxm171.2.1 128 = .ok (.idiv, 1) := by decide +kernel
theorem zd171_129 : decode zxm171.2.1 129 = .ok (.putfield 11, 3) := by decide +kernel
theorem zd171_132 : decode zxm171.2.1 132 = .ok (.aload_n 0, 1) := by decide +kernel
theorem zd171_133 : decode zxm171.2.1 133 = .ok (.aload_n 0, 1) := by decide +kernel
theorem zd171_134 : decode zxm171.2.1 134 = .ok (.getfield 43, 3) := by decide +kernel
theorem zd171_137 : decode zxm171.2.1 137 = .ok (.sipush 288, 3) := by decide +kernel
theorem zd171_140 : decode zxm171.2.1 140 = .ok (.idiv, 1) := by decide +kernel
theorem zd171_141 : decode zxm171.2.1 141 = .ok (.bipush 24, 2) := by decide +kernel
theorem zd171_143 : decode zxm171.2.1 143 = .ok (.irem, 1) := by decide +kernel
theorem zd171_144 : decode zxm171.2.1 144 = .ok (.putfield 15, 3) := by decide +kernel
theorem zd171_147 : decode zxm171.2.1 147 = .ok (.aload_n 0, 1) := by decide +kernel
theorem zd171_148 : decode zxm171.2.1 148 = .ok (.aload_n 0, 1) := by decide +kernel
theorem zd171_149 : decode zxm171.2.1 149 = .ok (.getfield 43, 3) := by decide +kernel
theorem zd171_152 : decode zxm171.2.1 152 = .ok (.bipush 24, 2) := by decide +kernel
theorem zd171_154 : decode zxm171.2.1 154 = .ok (.idiv, 1) := by decide +kernel
theorem zd171_155 : decode zxm171.2.1 155 = .ok (.bipush 12, 2) := by decide +kernel
theorem zd171_157 : decode zxm171.2.1 157 = .ok (.irem, 1) := by decide +kernel
theorem zd171_158 : decode zxm171.2.1 158 = .ok (.putfield 18, 3) := by decide +kernel
theorem zd171_161 : decode zxm171.2.1 161 = .ok (.aload_n 0, 1) := by decide +kernel
theorem zd171_162 : decode zxm171.2.1 162 = .ok (.aload_n 0, 1) := by decide +kernel
theorem zd171_163 : decode zxm171.2.1 163 = .ok (.getfield 43, 3) := by decide +kernel
theorem zd171_166 : decode zxm171.2.1 166 = .ok (.bipush 24, 2) := by decide +kernel
theorem zd171_168 : decode zxm171.2.1 168 = .ok (.irem, 1) := by decide +kernel
theorem zd171_169 : decode zxm171.2.1 169 = .ok (.putfield 21, 3) := by decide +kernel
theorem zd171_172 : decode zxm171.2.1 172 = .ok (.iconst 1, 1) := by decide +kernel
theorem zd171_173 : decode zxm171.2.1 173 = .ok (.ireturn, 1) := by decide +kernel
theorem zt_Pilot_findByTwo {x4 : Int} {x5 : Int} {x6 : Int} {f0 : Int} {f3 : Int} {f4 : Int} {f5 : Int} {f6 : Int} {f7 : Int} {f8 : Int} {f9 : Int} {f10 : Int} {f11 : Int} {f12 : Int} {f13 : Int} {f14 : Int} {f15 : Int} {f16 : Int} {f17 : Int} {f18 : Int} {f19 : Int} {f20 : Int} {f21 : Int} {f22 : Int} {f23 : Int} {f24 : Int} {f25 : Int} {f26 : Int} {f27 : Int} {f28 : Int} {f29 : Int} {g0 : (Int → Int)} {g1 : (Int → Int)} {g2 : (Int → Int)} {g3 : (Int → Int)} {g4 : (Int → Int)} {g5 : (Int → Int)} {g6 : (Int → Int)} {g7 : (Int → Int)} {g8 : (Int → Int)} {g9 : (Int → Int)} {g10 : (Int → Int)} {g11 : (Int → Int)} {g12 : (Int → Int)} {g13 : (Int → Int)} {g14 : (Int → Int)} {g15 : (Int → Int)} {g16 : (Int → Int)} {g17 : (Int → Int)} {g18 : (Int → Int)} {g19 : (Int → Int)} {g20 : (Int → Int)} {g21 : (Int → Int)} {g22 : (Int → Int)} {g23 : (Int → Int)} {g24 : (Int → Int)} {o : Int × Int × Int × Int × Int × Int × Int × Int × Int × Int × Int × Int × Int × Int × Int × Int × Int × Int × Int × (Int → Int) × (Int → Int) × (Int → Int) × (Int → Int) × (Int → Int) × (Int → Int) × (Int → Int) × (Int → Int) × (Int → Int) × (Int → Int) × (Int → Int) × (Int → Int) × (Int → Int) × (Int → Int)} (h : zf_Pilot_findByTwo x4 x5 x6 f0 f3 f4 f5 f6 f7 f8 f9 f10 f11 f12 f13 f14 f15 f16 f17 f18 f19 f20 f21 f22 f23 f24 f25 f26 f27 f28 f29 g0 g1 g2 g3 g4 g5 g6 g7 g8 g9 g10 g11 g12 g13 g14 g15 g16 g17 g18 g19 g20 g21 g22 g23 g24 = some o) : zv_Fn z_TB z_cl z_KX zy_Pilot_findByTwo zxm171 (6, 360) [.inr 0, .inr 1, .inr 2, .inr 3, .inl x4, .inl x5, .inl x6] [.inl f0, .inr 5, .inr 6, .inl f3, .inl f4, .inl f5, .inl f6, .inl f7, .inl f8, .inl f9, .inl f10, .inl f11, .inl f12, .inl f13, .inl f14, .inl f15, .inl f16, .inl f17, .inl f18, .inl f19, .inl f20, .inl f21, .inl f22, .inl f23, .inl f24, .inl f25, .inl f26, .inl f27, .inl f28, .inl f29] [g0, g1, g2, g3, g4, g5, g6, g7, g8, g9, g10, g11, g12, g13, g14, g15, g16, g17, g18, g19, g20, g21, g22, g23, g24] (some o.1) [.inl o.2.1, .inr 5, .inr 6, .inl o.2.2.1, .inl o.2.2.2.1, .inl o.2.2.2.2.1, .inl o.2.2.2.2.2.1, .inl o.2.2.2.2.2.2.1, .inl o.2.2.2.2.2.2.2.1, .inl o.2.2.2.2.2.2.2.2.1, .inl o.2.2.2.2.2.2.2.2.2.1, .inl f11, .inl o.2.2.2.2.2.2.2.2.2.2.1, .inl o.2.2.2.2.2.2.2.2.2.2.2.1, .inl f14, .inl o.2.2.2.2.2.2.2.2.2.2.2.2.1, .inl f16, .inl f17, .inl o.2.2.2.2.2.2.2.2.2.2.2.2.2.1, .inl f19, .inl f20, .inl f21, .inl f22, .inl f23, .inl f24, .inl o.2.2.2.2.2.2.2.2.2.2.2.2.2.2.1, .inl o.2.2.2.2.2.2.2.2.2.2.2.2.2.2.2.1, .inl o.2.2.2.2.2.2.2.2.2.2.2.2.2.2.2.2.1, .inl o.2.2.2.2.2.2.2.2.2.2.2.2.2.2.2.2.2.1, .inl o.2.2.2.2.2.2.2.2.2.2.2.2.2.2.2.2.2.2.1] [o.2.2.2.2.2.2.2.2.2.2.2.2.2.2.2.2.2.2.2.1, o.2.2.2.2.2.2.2.2.2.2.2.2.2.2.2.2.2.2.2.2.1, o.2.2.2.2.2.2.2.2.2.2.2.2.2.2.2.2.2.2.2.2.2.1, o.2.2.2.2.2.2.2.2.2.2.2.2.2.2.2.2.2.2.2.2.2.2.1, o.2.2.2.2.2.2.2.2.2.2.2.2.2.2.2.2.2.2.2.2.2.2.2.1, g5, g6, g7, g8, o.2.2.2.2.2.2.2.2.2.2.2.2.2.2.2.2.2.2.2.2.2.2.2.2.1, g10, g11, o.2.2.2.2.2.2.2.2.2.2.2.2.2.2.2.2.2.2.2.2.2.2.2.2.2.1, o.2.2.2.2.2.2.2.2.2.2.2.2.2.2.2.2.2.2.2.2.2.2.2.2.2.2.1, o.2.2.2.2.2.2.2.2.2.2.2.2.2.2.2.2.2.2.2.2.2.2.2.2.2.2.2.1, o.2.2.2.2.2.2.2.2.2.2.2.2.2.2.2.2.2.2.2.2.2.2.2.2.2.2.2.2.1, o.2.2.2.2.2.2.2.2.2.2.2.2.2.2.2.2.2.2.2.2.2.2.2.2.2.2.2.2.2.1, o.2.2.2.2.2.2.2.2.2.2.2.2.2.2.2.2.2.2.2.2.2.2.2.2.2.2.2.2.2.2.1, g18, g19, g20, g21, g22, o.2.2.2.2.2.2.2.2.2.2.2.2.2.2.2.2.2.2.2.2.2.2.2.2.2.2.2.2.2.2.2.1, o.2.2.2.2.2.2.2.2.2.2.2.2.2.2.2.2.2.2.2.2.2.2.2.2.2.2.2.2.2.2.2.2] := zv_meth (K := (z_KF6, z_KC6, z_KL6, z_KT6, [], [], [], none)) (FT := z_FT) (MT := z_MT) (n := 7) zxp171 (z_ks6 _ (fun _ h => List.mem_cons_of_mem _ h) _ _ _ _ (fun j r h _ => by cases h)) (fun _ _ => zs_KX_p) zyw_Pilot_findByTwo (fun va F G h => by obtain ⟨rfl, _⟩ := h; rfl) (fun va F G h => by obtain ⟨rfl, _⟩ := h; rfl) rfl fun good va F G hB hret hvret hP => by
  obtain ⟨rfl, rfl, rfl⟩ := hP
  have l0 : ∀ (n : Nat) (x5 : Int) (x6 : Int) (x7 : Int) (f0 : Int) (f3 : Int) (f4 : Int) (f5 : Int) (f6 : Int) (f7 : Int) (f8 : Int) (f9 : Int) (f10 : Int) (f12 : Int) (f13 : Int) (f15 : Int) (f18 : Int) (f25 : Int) (f26 : Int) (f27 : Int) (f28 : Int) (f29 : Int) (g0 : (Int → Int)) (g1 : (Int → Int)) (g2 : (Int → Int)) (g3 : (Int → Int)) (g4 : (Int → Int)) (g9 : (Int → Int)) (g12 : (Int → Int)) (g13 : (Int → Int)) (g14 : (Int → Int)) (g15 : (Int → Int)) (g16 : (Int → Int)) (g17 : (Int → Int)) (g23 : (Int → Int)) (g24 : (Int → Int)) (q : Int × Int × Int × Int × Int × Int × Int × Int × (Int → Int) × (Int → Int) × (Int → Int) × (Int → Int) × (Int → Int) × (Int → Int) × (Int → Int) × (Int → Int) × (Int → Int)), zf_Pilot_findByTwo_l0 x6 f3 f8 f9 f10 f11 f14 f16 f17 g4 g5 g6 g7 g8 g10 g11 g15 g16 n x7 f0 f4 f5 f6 f7 f12 f13 f15 g0 g1 g2 g3 g9 g12 g13 g14 g17 = some q → (good 48 [.inr 0, .inr 1, .inr 2, .inr 3, .inr 1000, .inl x5, .inl x6, .inr 1000] [] [.inl q.1, .inr 5, .inr 6, .inl f3, .inl q.2.1, .inl q.2.2.1, .inl q.2.2.2.1, .inl q.2.2.2.2.1, .inl f8, .inl f9, .inl f10, .inl f11, .inl q.2.2.2.2.2.1, .inl q.2.2.2.2.2.2.1, .inl f14, .inl q.2.2.2.2.2.2.2.1, .inl f16, .inl f17, .inl f18, .inl f19, .inl f20, .inl f21, .inl f22, .inl f23, .inl f24, .inl f25, .inl f26, .inl f27, .inl f28, .inl f29] [q.2.2.2.2.2.2.2.2.1, q.2.2.2.2.2.2.2.2.2.1, q.2.2.2.2.2.2.2.2.2.2.1, q.2.2.2.2.2.2.2.2.2.2.2.1, g4, g5, g6, g7, g8, q.2.2.2.2.2.2.2.2.2.2.2.2.1, g10, g11, q.2.2.2.2.2.2.2.2.2.2.2.2.2.1, q.2.2.2.2.2.2.2.2.2.2.2.2.2.2.1, q.2.2.2.2.2.2.2.2.2.2.2.2.2.2.2.1, g15, g16, q.2.2.2.2.2.2.2.2.2.2.2.2.2.2.2.2, g18, g19, g20, g21, g22, g23, g24]) → good 17 [.inr 0, .inr 1, .inr 2, .inr 3, .inr 1000, .inl x5, .inl x6, .inl x7] [] [.inl f0, .inr 5, .inr 6, .inl f3, .inl f4, .inl f5, .inl f6, .inl f7, .inl f8, .inl f9, .inl f10, .inl f11, .inl f12, .inl f13, .inl f14, .inl f15, .inl f16, .inl f17, .inl f18, .inl f19, .inl f20, .inl f21, .inl f22, .inl f23, .inl f24, .inl f25, .inl f26, .inl f27, .inl f28, .inl f29] [g0, g1, g2, g3, g4, g5, g6, g7, g8, g9, g10, g11, g12, g13, g14, g15, g16, g17, g18, g19, g20, g21, g22, g23, g24] := by
    intro n
    induction n with
    | zero => intro x5 x6 x7 f0 f3 f4 f5 f6 f7 f8 f9 f10 f12 f13 f15 f18 f25 f26 f27 f28 f29 g0 g1 g2 g3 g4 g9 g12 g13 g14 g15 g16 g17 g23 g24 q h; exact absurd (show none = some q from h) (fun h => by cases h)
    | succ n ih =>
      intro x5 x6 x7 f0 f3 f4 f5 f6 f7 f8 f9 f10 f12 f13 f15 f18 f25 f26 f27 f28 f29 g0 g1 g2 g3 g4 g9 g12 g13 g14 g15 g16 g17 g23 g24 q h hK
      replace h : zf_Pilot_findByTwo_l0_b x6 f3 f8 f9 f10 f11 f14 f16 f17 g4 g5 g6 g7 g8 g10 g11 g15 g16 (zf_Pilot_findByTwo_l0 x6 f3 f8 f9 f10 f11 f14 f16 f17 g4 g5 g6 g7 g8 g10 g11 g15 g16 n) x7 f0 f4 f5 f6 f7 f12 f13 f15 g0 g1 g2 g3 g9 g12 g13 g14 g17 = some q := h
      unfold zf_Pilot_findByTwo_l0_b at h
      refine zv_ild hB zd171_17 rfl rfl ?_
      refine zv_ild hB zd171_19 rfl rfl ?_
      refine zv_cge hB zd171_21 rfl (fun hc2 => ?_) (fun hc2 => ?_)
      · rw [if_neg (Int.not_lt.mpr hc2)] at h
        have hq := Option.some.inj h
        subst hq
        refine zv_wk hB (L' := [.inr 0, .inr 1, .inr 2, .inr 3, .inr 1000, .inl x5, .inl x6, .inr 1000]) (F' := [.inl f0, .inr 5, .inr 6, .inl f3, .inl f4, .inl f5, .inl f6, .inl f7, .inl f8, .inl f9, .inl f10, .inl f11, .inl f12, .inl f13, .inl f14, .inl f15, .inl f16, .inl f17, .inl f18, .inl f19, .inl f20, .inl f21, .inl f22, .inl f23, .inl f24, .inl f25, .inl f26, .inl f27, .inl f28, .inl f29]) ⟨fun _ => rfl, fun _ => rfl, fun _ => rfl, fun _ => rfl, fun (h : zv_is (.inr 1000)) => (Nat.lt_irrefl 1000 h).elim, fun _ => rfl, fun _ => rfl, fun (h : zv_is (.inr 1000)) => (Nat.lt_irrefl 1000 h).elim, trivial⟩ ⟨fun _ => rfl, fun _ => rfl, fun _ => rfl, fun _ => rfl, fun _ => rfl, fun _ => rfl, fun _ => rfl, fun _ => rfl, fun _ => rfl, fun _ => rfl, fun _ => rfl, fun _ => rfl, fun _ => rfl, fun _ => rfl, fun _ => rfl, fun _ => rfl, fun _ => rfl, fun _ => rfl, fun _ => rfl, fun _ => rfl, fun _ => rfl, fun _ => rfl, fun _ => rfl, fun _ => rfl, fun _ => rfl, fun _ => rfl, fun _ => rfl, fun _ => rfl, fun _ => rfl, fun _ => rfl, trivial⟩ ?_
        exact hK
      · rw [if_pos hc2] at h
        refine zv_ald hB zd171_24 rfl rfl rfl ?_
        refine zv_ald hB zd171_25 rfl rfl rfl ?_
        refine zv_ald hB zd171_26 rfl rfl rfl ?_
        obtain ⟨r3, hr3, h⟩ := zi_bind h
        refine zv_cv hB (zv_emq (va2 := [.inr 0, .inr 1, .inr 2]) (F := [.inl f0, .inr 5, .inr 6, .inl f3, .inl f4, .inl f5, .inl f6, .inl f7, .inl f8, .inl f9, .inl f10, .inl f11, .inl f12, .inl f13, .inl f14, .inl f15, .inl f16, .inl f17, .inl f18, .inl f19, .inl f20, .inl f21, .inl f22, .inl f23, .inl f24, .inl f25, .inl f26, .inl f27, .inl f28, .inl f29]) (F' := [.inl f0, .inr 5, .inr 6, .inl f3, .inl r3.1, .inl r3.2.1, .inl f6, .inl f7, .inl f8, .inl f9, .inl f10, .inl f11, .inl r3.2.2.1, .inl r3.2.2.2.1, .inl f14, .inl r3.2.2.2.2.1, .inl f16, .inl f17, .inl f18, .inl f19, .inl f20, .inl f21, .inl f22, .inl f23, .inl f24, .inl f25, .inl f26, .inl f27, .inl f28, .inl f29]) (G := [g0, g1, g2, g3, g4, g5, g6, g7, g8, g9, g10, g11, g12, g13, g14, g15, g16, g17, g18, g19, g20, g21, g22, g23, g24]) (G' := [r3.2.2.2.2.2.1, r3.2.2.2.2.2.2.1, g2, g3, g4, g5, g6, g7, g8, r3.2.2.2.2.2.2.2, g10, g11, g12, g13, g14, g15, g16, g17, g18, g19, g20, g21, g22, g23, g24]) (ρ := [0, 1, 2, 5, 4, 6, 7, 8, 9, 10, 11, 12, 13, 14, 15, 16, 17]) (φ := [1, 3, 2, 4, 5, 6, 7, 8, 9, 10, 11, 12, 13, 14, 15, 16]) (ψ := [0, 1, 2, 3, 4, 5, 6, 7, 8, 9, 10, 11]) [none, some 0, some 2, some 1, some 3, some 4, some 5, some 6, some 7, some 8, some 9, some 10, some 11, some 12, some 13, some 14, some 15, none, none, none, none, none, none, none, none, none, none, none, none, none] [some 0, some 1, some 2, some 3, some 4, some 5, some 6, some 7, some 8, some 9, some 10, some 11, none, none, none, none, none, none, none, none, none, none, none, none, none] zyw_Pilot_stepFirstLegs zyw_Pilot_findByTwo zye_Pilot_findByTwo (by decide +kernel) (zt_Pilot_stepFirstLegs hr3) ⟨⟨_, rfl, fun _ => rfl⟩, ⟨_, rfl, fun _ => rfl⟩, ⟨_, rfl, fun _ => rfl⟩, ⟨_, rfl, fun _ => rfl⟩, ⟨_, rfl, fun _ => rfl⟩, ⟨_, rfl, fun _ => rfl⟩, ⟨_, rfl, fun _ => rfl⟩, ⟨_, rfl, fun _ => rfl⟩, ⟨_, rfl, fun _ => rfl⟩, ⟨_, rfl, fun _ => rfl⟩, ⟨_, rfl, fun _ => rfl⟩, ⟨_, rfl, fun _ => rfl⟩, ⟨_, rfl, fun _ => rfl⟩, ⟨_, rfl, fun _ => rfl⟩, ⟨_, rfl, fun _ => rfl⟩, ⟨_, rfl, fun _ => rfl⟩, trivial⟩ ⟨rfl, rfl, rfl, rfl, rfl, rfl, rfl, rfl, rfl, rfl, rfl, rfl, trivial⟩ rfl rfl rfl rfl rfl rfl rfl) zd171_27 zxt168 rfl (by decide) (by decide) rfl ?_
        refine zv_ald hB zd171_30 rfl rfl rfl ?_
        refine zv_ald hB zd171_31 rfl rfl rfl ?_
        refine zv_ild hB zd171_32 rfl rfl ?_
        obtain ⟨r4, hr4, h⟩ := zi_bind h
        refine zv_cv hB (zv_emq (va2 := [.inr 0, .inr 3, .inl x7]) (F := [.inl f0, .inr 5, .inr 6, .inl f3, .inl r3.1, .inl r3.2.1, .inl f6, .inl f7, .inl f8, .inl f9, .inl f10, .inl f11, .inl r3.2.2.1, .inl r3.2.2.2.1, .inl f14, .inl r3.2.2.2.2.1, .inl f16, .inl f17, .inl f18, .inl f19, .inl f20, .inl f21, .inl f22, .inl f23, .inl f24, .inl f25, .inl f26, .inl f27, .inl f28, .inl f29]) (F' := [.inl r4.1, .inr 5, .inr 6, .inl f3, .inl r3.1, .inl r3.2.1, .inl f6, .inl f7, .inl f8, .inl f9, .inl f10, .inl f11, .inl r3.2.2.1, .inl r3.2.2.2.1, .inl f14, .inl r3.2.2.2.2.1, .inl f16, .inl f17, .inl f18, .inl f19, .inl f20, .inl f21, .inl f22, .inl f23, .inl f24, .inl f25, .inl f26, .inl f27, .inl f28, .inl f29]) (G := [r3.2.2.2.2.2.1, r3.2.2.2.2.2.2.1, g2, g3, g4, g5, g6, g7, g8, r3.2.2.2.2.2.2.2, g10, g11, g12, g13, g14, g15, g16, g17, g18, g19, g20, g21, g22, g23, g24]) (G' := [r3.2.2.2.2.2.1, r3.2.2.2.2.2.2.1, g2, g3, g4, g5, g6, g7, g8, r3.2.2.2.2.2.2.2, g10, g11, r4.2.1, r4.2.2.1, r4.2.2.2, g15, g16, g17, g18, g19, g20, g21, g22, g23, g24]) (ρ := [0, 3, 4, 18, 19, 20]) (φ := [17, 0]) (ψ := [0, 12, 13, 14]) [some 1, none, none, none, none, none, none, none, none, none, none, none, none, none, none, none, none, some 0, none, none, none, none, none, none, none, none, none, none, none, none] [some 0, none, none, none, none, none, none, none, none, none, none, none, some 1, some 2, some 3, none, none, none, none, none, none, none, none, none, none] zyw_Pilot_endFirstLegs zyw_Pilot_findByTwo zye_Pilot_findByTwo (by decide +kernel) (zt_Pilot_endFirstLegs hr4) ⟨⟨_, rfl, fun _ => rfl⟩, ⟨_, rfl, fun _ => rfl⟩, trivial⟩ ⟨rfl, rfl, rfl, rfl, trivial⟩ rfl rfl rfl rfl rfl rfl rfl) zd171_34 zxt172 rfl (by decide) (by decide) rfl ?_
        refine zv_ald hB zd171_37 rfl rfl rfl ?_
        refine zv_ald hB zd171_38 rfl rfl rfl ?_
        obtain ⟨r5, hr5, h⟩ := zi_bind h
        refine zv_cv hB (zv_emq (va2 := [.inr 0, .inr 1]) (F := [.inl r4.1, .inr 5, .inr 6, .inl f3, .inl r3.1, .inl r3.2.1, .inl f6, .inl f7, .inl f8, .inl f9, .inl f10, .inl f11, .inl r3.2.2.1, .inl r3.2.2.2.1, .inl f14, .inl r3.2.2.2.2.1, .inl f16, .inl f17, .inl f18, .inl f19, .inl f20, .inl f21, .inl f22, .inl f23, .inl f24, .inl f25, .inl f26, .inl f27, .inl f28, .inl f29]) (F' := [.inl r4.1, .inr 5, .inr 6, .inl f3, .inl r3.1, .inl r3.2.1, .inl r5.1, .inl r5.2.1, .inl f8, .inl f9, .inl f10, .inl f11, .inl r5.2.2.1, .inl r3.2.2.2.1, .inl f14, .inl r3.2.2.2.2.1, .inl f16, .inl f17, .inl f18, .inl f19, .inl f20, .inl f21, .inl f22, .inl f23, .inl f24, .inl f25, .inl f26, .inl f27, .inl f28, .inl f29]) (G := [r3.2.2.2.2.2.1, r3.2.2.2.2.2.2.1, g2, g3, g4, g5, g6, g7, g8, r3.2.2.2.2.2.2.2, g10, g11, r4.2.1, r4.2.2.1, r4.2.2.2, g15, g16, g17, g18, g19, g20, g21, g22, g23, g24]) (G' := [r3.2.2.2.2.2.1, r3.2.2.2.2.2.2.1, r5.2.2.2.1, r5.2.2.2.2.1, g4, g5, g6, g7, g8, r3.2.2.2.2.2.2.2, g10, g11, r4.2.1, r4.2.2.1, r4.2.2.2, g15, g16, r5.2.2.2.2.2, g18, g19, g20, g21, g22, g23, g24]) (ρ := [0, 1, 5, 8, 21, 9, 22, 6, 23]) (φ := [1, 6, 7, 2, 12]) (ψ := [2, 15, 3, 16, 17]) [none, some 0, some 3, none, none, none, some 1, some 2, none, none, none, none, some 4, none, none, none, none, none, none, none, none, none, none, none, none, none, none, none, none, none] [none, none, some 0, some 2, none, none, none, none, none, none, none, none, none, none, none, some 1, some 3, some 4, none, none, none, none, none, none, none] zyw_Pilot_turnOnward zyw_Pilot_findByTwo zye_Pilot_findByTwo (by decide +kernel) (zt_Pilot_turnOnward hr5) ⟨⟨_, rfl, fun _ => rfl⟩, ⟨_, rfl, fun _ => rfl⟩, ⟨_, rfl, fun _ => rfl⟩, ⟨_, rfl, fun _ => rfl⟩, ⟨_, rfl, fun _ => rfl⟩, trivial⟩ ⟨rfl, rfl, rfl, rfl, rfl, trivial⟩ rfl rfl rfl rfl rfl rfl rfl) zd171_39 zxt169 rfl (by decide) (by decide) rfl ?_
        refine zv_iincw hB zd171_42 rfl rfl ?_
        refine zv_goto hB zd171_45 rfl ?_
        exact ih _ _ _ _ _ _ _ _ _ _ _ _ _ _ _ _ _ _ _ _ _ _ _ _ _ _ _ _ _ _ _ _ _ _ _ q h hK
  have l1 : ∀ (n : Nat) (x5 : Int) (x6 : Int) (x7 : Int) (f0 : Int) (f3 : Int) (f4 : Int) (f5 : Int) (f6 : Int) (f7 : Int) (f8 : Int) (f9 : Int) (f10 : Int) (f12 : Int) (f13 : Int) (f15 : Int) (f18 : Int) (f25 : Int) (f26 : Int) (f27 : Int) (f28 : Int) (f29 : Int) (g0 : (Int → Int)) (g1 : (Int → Int)) (g2 : (Int → Int)) (g3 : (Int → Int)) (g4 : (Int → Int)) (g9 : (Int → Int)) (g12 : (Int → Int)) (g13 : (Int → Int)) (g14 : (Int → Int)) (g15 : (Int → Int)) (g16 : (Int → Int)) (g17 : (Int → Int)) (g23 : (Int → Int)) (g24 : (Int → Int)) (q : Int × Int × Int × Int × Int × Int × Int × Int × Int × Int × Int × Int × Int × (Int → Int) × (Int → Int) × (Int → Int) × (Int → Int) × (Int → Int) × (Int → Int) × (Int → Int) × (Int → Int) × (Int → Int) × (Int → Int)), zf_Pilot_findByTwo_l1 x5 x6 f0 f11 f14 f16 f17 f19 f20 f21 f22 f23 f24 g5 g6 g7 g8 g10 g11 g12 g13 g14 g18 g19 g20 g21 g22 n x7 f3 f4 f5 f6 f7 f8 f9 f10 f12 f13 f15 f18 f25 g1 g2 g3 g4 g9 g15 g16 g17 g23 g24 = some q → (good 110 [.inr 0, .inr 1000, .inr 1000, .inr 1000, .inr 1000, .inr 1000, .inr 1000, .inr 1000] [] [.inl f0, .inr 5, .inr 6, .inl q.1, .inl q.2.1, .inl q.2.2.1, .inl q.2.2.2.1, .inl q.2.2.2.2.1, .inl q.2.2.2.2.2.1, .inl q.2.2.2.2.2.2.1, .inl q.2.2.2.2.2.2.2.1, .inl f11, .inl q.2.2.2.2.2.2.2.2.1, .inl q.2.2.2.2.2.2.2.2.2.1, .inl f14, .inl q.2.2.2.2.2.2.2.2.2.2.1, .inl f16, .inl f17, .inl q.2.2.2.2.2.2.2.2.2.2.2.1, .inl f19, .inl f20, .inl f21, .inl f22, .inl f23, .inl f24, .inl q.2.2.2.2.2.2.2.2.2.2.2.2.1, .inl f26, .inl f27, .inl f28, .inl f29] [g0, q.2.2.2.2.2.2.2.2.2.2.2.2.2.1, q.2.2.2.2.2.2.2.2.2.2.2.2.2.2.1, q.2.2.2.2.2.2.2.2.2.2.2.2.2.2.2.1, q.2.2.2.2.2.2.2.2.2.2.2.2.2.2.2.2.1, g5, g6, g7, g8, q.2.2.2.2.2.2.2.2.2.2.2.2.2.2.2.2.2.1, g10, g11, g12, g13, g14, q.2.2.2.2.2.2.2.2.2.2.2.2.2.2.2.2.2.2.1, q.2.2.2.2.2.2.2.2.2.2.2.2.2.2.2.2.2.2.2.1, q.2.2.2.2.2.2.2.2.2.2.2.2.2.2.2.2.2.2.2.2.1, g18, g19, g20, g21, g22, q.2.2.2.2.2.2.2.2.2.2.2.2.2.2.2.2.2.2.2.2.2.1, q.2.2.2.2.2.2.2.2.2.2.2.2.2.2.2.2.2.2.2.2.2.2]) → good 56 [.inr 0, .inr 1, .inr 2, .inr 3, .inr 1000, .inl x5, .inl x6, .inl x7] [] [.inl f0, .inr 5, .inr 6, .inl f3, .inl f4, .inl f5, .inl f6, .inl f7, .inl f8, .inl f9, .inl f10, .inl f11, .inl f12, .inl f13, .inl f14, .inl f15, .inl f16, .inl f17, .inl f18, .inl f19, .inl f20, .inl f21, .inl f22, .inl f23, .inl f24, .inl f25, .inl f26, .inl f27, .inl f28, .inl f29] [g0, g1, g2, g3, g4, g5, g6, g7, g8, g9, g10, g11, g12, g13, g14, g15, g16, g17, g18, g19, g20, g21, g22, g23, g24] := by
    intro n
    induction n with
    | zero => intro x5 x6 x7 f0 f3 f4 f5 f6 f7 f8 f9 f10 f12 f13 f15 f18 f25 f26 f27 f28 f29 g0 g1 g2 g3 g4 g9 g12 g13 g14 g15 g16 g17 g23 g24 q h; exact absurd (show none = some q from h) (fun h => by cases h)
    | succ n ih =>
      intro x5 x6 x7 f0 f3 f4 f5 f6 f7 f8 f9 f10 f12 f13 f15 f18 f25 f26 f27 f28 f29 g0 g1 g2 g3 g4 g9 g12 g13 g14 g15 g16 g17 g23 g24 q h hK
      replace h : zf_Pilot_findByTwo_l1_b x5 x6 f0 f11 f14 f16 f17 f19 f20 f21 f22 f23 f24 g5 g6 g7 g8 g10 g11 g12 g13 g14 g18 g19 g20 g21 g22 (zf_Pilot_findByTwo_l1 x5 x6 f0 f11 f14 f16 f17 f19 f20 f21 f22 f23 f24 g5 g6 g7 g8 g10 g11 g12 g13 g14 g18 g19 g20 g21 g22 n) x7 f3 f4 f5 f6 f7 f8 f9 f10 f12 f13 f15 f18 f25 g1 g2 g3 g4 g9 g15 g16 g17 g23 g24 = some q := h
      unfold zf_Pilot_findByTwo_l1_b at h
      refine zv_ild hB zd171_56 rfl rfl ?_
      refine zv_con hB zd171_58 rfl ?_
      refine zv_cge hB zd171_60 rfl (fun hc7 => ?_) (fun hc7 => ?_)
      · rw [if_neg (Int.not_lt.mpr hc7)] at h
        have hq := Option.some.inj h
        subst hq
        refine zv_wk hB (L' := [.inr 0, .inr 1000, .inr 1000, .inr 1000, .inr 1000, .inr 1000, .inr 1000, .inr 1000]) (F' := [.inl f0, .inr 5, .inr 6, .inl f3, .inl f4, .inl f5, .inl f6, .inl f7, .inl f8, .inl f9, .inl f10, .inl f11, .inl f12, .inl f13, .inl f14, .inl f15, .inl f16, .inl f17, .inl f18, .inl f19, .inl f20, .inl f21, .inl f22, .inl f23, .inl f24, .inl f25, .inl f26, .inl f27, .inl f28, .inl f29]) ⟨fun _ => rfl, fun (h : zv_is (.inr 1000)) => (Nat.lt_irrefl 1000 h).elim, fun (h : zv_is (.inr 1000)) => (Nat.lt_irrefl 1000 h).elim, fun (h : zv_is (.inr 1000)) => (Nat.lt_irrefl 1000 h).elim, fun (h : zv_is (.inr 1000)) => (Nat.lt_irrefl 1000 h).elim, fun (h : zv_is (.inr 1000)) => (Nat.lt_irrefl 1000 h).elim, fun (h : zv_is (.inr 1000)) => (Nat.lt_irrefl 1000 h).elim, fun (h : zv_is (.inr 1000)) => (Nat.lt_irrefl 1000 h).elim, trivial⟩ ⟨fun _ => rfl, fun _ => rfl, fun _ => rfl, fun _ => rfl, fun _ => rfl, fun _ => rfl, fun _ => rfl, fun _ => rfl, fun _ => rfl, fun _ => rfl, fun _ => rfl, fun _ => rfl, fun _ => rfl, fun _ => rfl, fun _ => rfl, fun _ => rfl, fun _ => rfl, fun _ => rfl, fun _ => rfl, fun _ => rfl, fun _ => rfl, fun _ => rfl, fun _ => rfl, fun _ => rfl, fun _ => rfl, fun _ => rfl, fun _ => rfl, fun _ => rfl, fun _ => rfl, fun _ => rfl, trivial⟩ ?_
        exact hK
      · rw [if_pos hc7] at h
        refine zv_ald hB zd171_63 rfl rfl rfl ?_
        refine zv_ild hB zd171_64 rfl rfl ?_
        obtain ⟨r8, hr8, h⟩ := zi_bind h
        refine zv_cv hB (zv_emq (va2 := [.inr 3, .inl x7]) (F := [.inl f0, .inr 5, .inr 6, .inl f3, .inl f4, .inl f5, .inl f6, .inl f7, .inl f8, .inl f9, .inl f10, .inl f11, .inl f12, .inl f13, .inl f14, .inl f15, .inl f16, .inl f17, .inl f18, .inl f19, .inl f20, .inl f21, .inl f22, .inl f23, .inl f24, .inl f25, .inl f26, .inl f27, .inl f28, .inl f29]) (F' := [.inl f0, .inr 5, .inr 6, .inl f3, .inl f4, .inl f5, .inl f6, .inl f7, .inl f8, .inl f9, .inl f10, .inl f11, .inl f12, .inl f13, .inl f14, .inl f15, .inl f16, .inl f17, .inl f18, .inl f19, .inl f20, .inl f21, .inl f22, .inl f23, .inl f24, .inl f25, .inl f26, .inl f27, .inl f28, .inl f29]) (G := [g0, g1, g2, g3, g4, g5, g6, g7, g8, g9, g10, g11, g12, g13, g14, g15, g16, g17, g18, g19, g20, g21, g22, g23, g24]) (G' := [g0, g1, g2, g3, g4, g5, g6, g7, g8, g9, g10, g11, g12, g13, g14, g15, g16, g17, g18, g19, g20, g21, g22, g23, g24]) (ρ := [3]) (φ := [17]) (ψ := []) [none, none, none, none, none, none, none, none, none, none, none, none, none, none, none, none, none, some 0, none, none, none, none, none, none, none, none, none, none, none, none] [none, none, none, none, none, none, none, none, none, none, none, none, none, none, none, none, none, none, none, none, none, none, none, none, none] zyw_Sky_hasStar zyw_Pilot_findByTwo zye_Pilot_findByTwo (by decide +kernel) (zt_Sky_hasStar hr8) ⟨⟨_, rfl, fun _ => rfl⟩, trivial⟩ trivial rfl rfl rfl rfl rfl rfl rfl) zd171_66 zxt18 rfl (by decide) (by decide) rfl ?_
        refine zv_zeq hB zd171_69 rfl (fun hc9 => ?_) (fun hc9 => ?_)
        · rw [if_pos hc9] at h
          refine zv_iincw hB zd171_104 rfl rfl ?_
          refine zv_goto hB zd171_107 rfl ?_
          exact ih _ _ _ _ _ _ _ _ _ _ _ _ _ _ _ _ _ _ _ _ _ _ _ _ _ _ _ _ _ _ _ _ _ _ _ q h hK
        · rw [if_neg hc9] at h
          refine zv_ald hB zd171_72 rfl rfl rfl ?_
          refine zv_getq hB zd171_73 rfl rfl rfl ?_
          refine zv_ald hB zd171_76 rfl rfl rfl ?_
          obtain ⟨r10, hr10, h⟩ := zi_bind h
          refine zv_cv hB (zv_emq (va2 := [.inr 5, .inr 3]) (F := [.inl f0, .inr 5, .inr 6, .inl f3, .inl f4, .inl f5, .inl f6, .inl f7, .inl f8, .inl f9, .inl f10, .inl f11, .inl f12, .inl f13, .inl f14, .inl f15, .inl f16, .inl f17, .inl f18, .inl f19, .inl f20, .inl f21, .inl f22, .inl f23, .inl f24, .inl f25, .inl f26, .inl f27, .inl f28, .inl f29]) (F' := [.inl f0, .inr 5, .inr 6, .inl r10.1, .inl f4, .inl f5, .inl r10.2.1, .inl r10.2.2.1, .inl r10.2.2.2.2.1, .inl r10.2.2.2.2.2.1, .inl r10.2.2.2.1, .inl f11, .inl f12, .inl f13, .inl f14, .inl f15, .inl f16, .inl f17, .inl f18, .inl f19, .inl f20, .inl f21, .inl f22, .inl f23, .inl f24, .inl r10.2.2.2.2.2.2.1, .inl f26, .inl f27, .inl f28, .inl f29]) (G := [g0, g1, g2, g3, g4, g5, g6, g7, g8, g9, g10, g11, g12, g13, g14, g15, g16, g17, g18, g19, g20, g21, g22, g23, g24]) (G' := [g0, g1, r10.2.2.2.2.2.2.2.1, r10.2.2.2.2.2.2.2.2.1, r10.2.2.2.2.2.2.2.2.2.1, g5, g6, g7, g8, g9, g10, g11, g12, g13, g14, r10.2.2.2.2.2.2.2.2.2.2.1, r10.2.2.2.2.2.2.2.2.2.2.2, g17, g18, g19, g20, g21, g22, g23, g24]) (ρ := [5, 3, 24, 8, 25, 9, 26, 10, 27, 21, 28, 22]) (φ := [17, 3, 19, 6, 20, 7, 21, 10, 22, 8, 23, 9, 24, 25]) (ψ := [18, 2, 19, 3, 20, 4, 21, 15, 22, 16]) [none, none, none, some 1, none, none, some 3, some 5, some 9, some 11, some 7, none, none, none, none, none, none, some 0, none, some 2, some 4, some 6, some 8, some 10, some 12, some 13, none, none, none, none] [none, none, some 1, some 3, some 5, none, none, none, none, none, none, none, none, none, none, some 7, some 9, none, some 0, some 2, some 4, some 6, some 8, none, none] zyw_Sky_copyFrom zyw_Pilot_findByTwo zye_Pilot_findByTwo (by decide +kernel) (zt_Sky_copyFrom hr10) ⟨⟨_, rfl, fun _ => rfl⟩, ⟨_, rfl, fun _ => rfl⟩, ⟨_, rfl, fun _ => rfl⟩, ⟨_, rfl, fun _ => rfl⟩, ⟨_, rfl, fun _ => rfl⟩, ⟨_, rfl, fun _ => rfl⟩, ⟨_, rfl, fun _ => rfl⟩, ⟨_, rfl, fun _ => rfl⟩, ⟨_, rfl, fun _ => rfl⟩, ⟨_, rfl, fun _ => rfl⟩, ⟨_, rfl, fun _ => rfl⟩, ⟨_, rfl, fun _ => rfl⟩, ⟨_, rfl, fun _ => rfl⟩, ⟨_, rfl, fun _ => rfl⟩, trivial⟩ ⟨rfl, rfl, rfl, rfl, rfl, rfl, rfl, rfl, rfl, rfl, trivial⟩ rfl rfl rfl rfl rfl rfl rfl) zd171_77 zxt125 rfl (by decide) (by decide) rfl ?_
          refine zv_ald hB zd171_80 rfl rfl rfl ?_
          refine zv_ald hB zd171_81 rfl rfl rfl ?_
          refine zv_getq hB zd171_82 rfl rfl rfl ?_
          refine zv_ald hB zd171_85 rfl rfl rfl ?_
          refine zv_getq hB zd171_86 rfl rfl rfl ?_
          obtain ⟨r11, hr11, h⟩ := zi_bind h
          refine zv_cv hB (zv_emq (va2 := [.inr 1, .inr 5, .inr 6]) (F := [.inl f0, .inr 5, .inr 6, .inl r10.1, .inl f4, .inl f5, .inl r10.2.1, .inl r10.2.2.1, .inl r10.2.2.2.2.1, .inl r10.2.2.2.2.2.1, .inl r10.2.2.2.1, .inl f11, .inl f12, .inl f13, .inl f14, .inl f15, .inl f16, .inl f17, .inl f18, .inl f19, .inl f20, .inl f21, .inl f22, .inl f23, .inl f24, .inl r10.2.2.2.2.2.2.1, .inl f26, .inl f27, .inl f28, .inl f29]) (F' := [.inl f0, .inr 5, .inr 6, .inl r10.1, .inl f4, .inl f5, .inl r10.2.1, .inl r10.2.2.1, .inl r10.2.2.2.2.1, .inl r10.2.2.2.2.2.1, .inl r10.2.2.2.1, .inl f11, .inl r11.1, .inl f13, .inl f14, .inl f15, .inl f16, .inl f17, .inl f18, .inl f19, .inl f20, .inl f21, .inl f22, .inl f23, .inl f24, .inl r10.2.2.2.2.2.2.1, .inl f26, .inl f27, .inl f28, .inl f29]) (G := [g0, g1, r10.2.2.2.2.2.2.2.1, r10.2.2.2.2.2.2.2.2.1, r10.2.2.2.2.2.2.2.2.2.1, g5, g6, g7, g8, g9, g10, g11, g12, g13, g14, r10.2.2.2.2.2.2.2.2.2.2.1, r10.2.2.2.2.2.2.2.2.2.2.2, g17, g18, g19, g20, g21, g22, g23, g24]) (G' := [g0, g1, r10.2.2.2.2.2.2.2.1, r10.2.2.2.2.2.2.2.2.1, r10.2.2.2.2.2.2.2.2.2.1, g5, g6, g7, g8, g9, g10, g11, g12, g13, g14, r10.2.2.2.2.2.2.2.2.2.2.1, r10.2.2.2.2.2.2.2.2.2.2.2, r11.2, g18, g19, g20, g21, g22, g23, g24]) (ρ := [1, 5, 6, 23]) (φ := [1, 2, 12]) (ψ := [17]) [none, some 0, some 1, none, none, none, none, none, none, none, none, none, some 2, none, none, none, none, none, none, none, none, none, none, none, none, none, none, none, none, none] [none, none, none, none, none, none, none, none, none, none, none, none, none, none, none, none, none, some 0, none, none, none, none, none, none, none] zyw_View_open zyw_Pilot_findByTwo zye_Pilot_findByTwo (by decide +kernel) (zt_View_open hr11) ⟨⟨_, rfl, fun (h : zv_is (.inr 1000)) => (Nat.lt_irrefl 1000 h).elim⟩, ⟨_, rfl, fun (h : zv_is (.inr 1000)) => (Nat.lt_irrefl 1000 h).elim⟩, ⟨_, rfl, fun _ => rfl⟩, trivial⟩ ⟨rfl, trivial⟩ rfl rfl rfl rfl rfl rfl rfl) zd171_89 zxt84 rfl (by decide) (by decide) rfl ?_
          refine zv_ald hB zd171_92 rfl rfl rfl ?_
          refine zv_ald hB zd171_93 rfl rfl rfl ?_
          refine zv_ald hB zd171_94 rfl rfl rfl ?_
          refine zv_ild hB zd171_95 rfl rfl ?_
          refine zv_ild hB zd171_97 rfl rfl ?_
          refine zv_ild hB zd171_99 rfl rfl ?_
          obtain ⟨r12, hr12, h⟩ := zi_bind h
          refine zv_cv hB (zv_emq (va2 := [.inr 0, .inr 1, .inr 2, .inl x7, .inl x5, .inl x6]) (F := [.inl f0, .inr 5, .inr 6, .inl r10.1, .inl f4, .inl f5, .inl r10.2.1, .inl r10.2.2.1, .inl r10.2.2.2.2.1, .inl r10.2.2.2.2.2.1, .inl r10.2.2.2.1, .inl f11, .inl r11.1, .inl f13, .inl f14, .inl f15, .inl f16, .inl f17, .inl f18, .inl f19, .inl f20, .inl f21, .inl f22, .inl f23, .inl f24, .inl r10.2.2.2.2.2.2.1, .inl f26, .inl f27, .inl f28, .inl f29]) (F' := [.inl f0, .inr 5, .inr 6, .inl r10.1, .inl r12.2.1, .inl r12.2.2.1, .inl r12.2.2.2.1, .inl r12.2.2.2.2.1, .inl r10.2.2.2.2.1, .inl r10.2.2.2.2.2.1, .inl r10.2.2.2.1, .inl f11, .inl r12.2.2.2.2.2.1, .inl r12.2.2.2.2.2.2.1, .inl f14, .inl r12.2.2.2.2.2.2.2.1, .inl f16, .inl f17, .inl r12.1, .inl f19, .inl f20, .inl f21, .inl f22, .inl f23, .inl f24, .inl r10.2.2.2.2.2.2.1, .inl f26, .inl f27, .inl f28, .inl f29]) (G := [g0, g1, r10.2.2.2.2.2.2.2.1, r10.2.2.2.2.2.2.2.2.1, r10.2.2.2.2.2.2.2.2.2.1, g5, g6, g7, g8, g9, g10, g11, g12, g13, g14, r10.2.2.2.2.2.2.2.2.2.2.1, r10.2.2.2.2.2.2.2.2.2.2.2, r11.2, g18, g19, g20, g21, g22, g23, g24]) (G' := [g0, r12.2.2.2.2.2.2.2.2.2.2.1, r12.2.2.2.2.2.2.2.2.2.2.2.1, r12.2.2.2.2.2.2.2.2.2.2.2.2.1, r10.2.2.2.2.2.2.2.2.2.1, g5, g6, g7, g8, r12.2.2.2.2.2.2.2.2.2.2.2.2.2.1, g10, g11, g12, g13, g14, r10.2.2.2.2.2.2.2.2.2.2.1, r10.2.2.2.2.2.2.2.2.2.2.2, r12.2.2.2.2.2.2.2.2.2.2.2.2.2.2, g18, g19, g20, g21, g22, r12.2.2.2.2.2.2.2.2.1, r12.2.2.2.2.2.2.2.2.2.1]) (ρ := [0, 1, 2, 29, 19, 30, 18, 6, 7, 5, 8, 9, 10, 11, 12, 13, 14, 15, 16, 17, 20, 21, 22, 23]) (φ := [18, 0, 2, 1, 4, 5, 6, 7, 3, 8, 9, 10, 11, 12, 13, 14, 15, 16]) (ψ := [23, 13, 24, 12, 1, 2, 3, 4, 5, 6, 7, 8, 9, 10, 11, 14, 15, 16, 17]) [some 1, some 3, some 2, some 8, some 4, some 5, some 6, some 7, some 9, some 10, some 11, some 12, some 13, some 14, some 15, some 16, some 17, none, some 0, none, none, none, none, none, none, none, none, none, none, none] [none, some 4, some 5, some 6, some 7, some 8, some 9, some 10, some 11, some 12, some 13, some 14, some 3, some 1, some 15, some 16, some 17, some 18, none, none, none, none, none, some 0, some 2] zyw_Pilot_followSecond zyw_Pilot_findByTwo zye_Pilot_findByTwo (by decide +kernel) (zt_Pilot_followSecond hr12) ⟨⟨_, rfl, fun _ => rfl⟩, ⟨_, rfl, fun _ => rfl⟩, ⟨_, rfl, fun _ => rfl⟩, ⟨_, rfl, fun _ => rfl⟩, ⟨_, rfl, fun _ => rfl⟩, ⟨_, rfl, fun _ => rfl⟩, ⟨_, rfl, fun _ => rfl⟩, ⟨_, rfl, fun _ => rfl⟩, ⟨_, rfl, fun _ => rfl⟩, ⟨_, rfl, fun _ => rfl⟩, ⟨_, rfl, fun _ => rfl⟩, ⟨_, rfl, fun _ => rfl⟩, ⟨_, rfl, fun _ => rfl⟩, ⟨_, rfl, fun _ => rfl⟩, ⟨_, rfl, fun _ => rfl⟩, ⟨_, rfl, fun _ => rfl⟩, ⟨_, rfl, fun _ => rfl⟩, ⟨_, rfl, fun _ => rfl⟩, trivial⟩ ⟨rfl, rfl, rfl, rfl, rfl, rfl, rfl, rfl, rfl, rfl, rfl, rfl, rfl, rfl, rfl, rfl, rfl, rfl, rfl, trivial⟩ rfl rfl rfl rfl rfl rfl rfl) zd171_101 zxt174 rfl (by decide) (by decide) rfl ?_
          refine zv_iincw hB zd171_104 rfl rfl ?_
          refine zv_goto hB zd171_107 rfl ?_
          exact ih _ _ _ _ _ _ _ _ _ _ _ _ _ _ _ _ _ _ _ _ _ _ _ _ _ _ _ _ _ _ _ _ _ _ _ q h hK
  unfold zf_Pilot_findByTwo at h
  refine zv_ald hB zd171_0 rfl rfl rfl ?_
  refine zv_con hB zd171_1 rfl ?_
  refine zv_putf hB zd171_2 rfl rfl (fun h => by cases h) rfl ?_
  refine zv_ald hB zd171_5 rfl rfl rfl ?_
  refine zv_getr hB zd171_6 rfl ?_
  refine zv_ild hB zd171_9 rfl rfl ?_
  obtain ⟨r1, hr1, h⟩ := zi_bind h
  refine zv_cs hB (zv_emq (va2 := [.inr 4, .inl x4]) (F := [.inl 0, .inr 5, .inr 6, .inl f3, .inl f4, .inl f5, .inl f6, .inl f7, .inl f8, .inl f9, .inl f10, .inl f11, .inl f12, .inl f13, .inl f14, .inl f15, .inl f16, .inl f17, .inl f18, .inl f19, .inl f20, .inl f21, .inl f22, .inl f23, .inl f24, .inl f25, .inl f26, .inl f27, .inl f28, .inl f29]) (F' := [.inl 0, .inr 5, .inr 6, .inl f3, .inl f4, .inl f5, .inl f6, .inl f7, .inl f8, .inl f9, .inl f10, .inl f11, .inl f12, .inl f13, .inl f14, .inl f15, .inl f16, .inl f17, .inl f18, .inl f19, .inl f20, .inl f21, .inl f22, .inl f23, .inl f24, .inl f25, .inl f26, .inl f27, .inl f28, .inl f29]) (G := [g0, g1, g2, g3, g4, g5, g6, g7, g8, g9, g10, g11, g12, g13, g14, g15, g16, g17, g18, g19, g20, g21, g22, g23, g24]) (G' := [r1, g1, g2, g3, g4, g5, g6, g7, g8, g9, g10, g11, g12, g13, g14, g15, g16, g17, g18, g19, g20, g21, g22, g23, g24]) (ρ := [4]) (φ := []) (ψ := [0]) [none, none, none, none, none, none, none, none, none, none, none, none, none, none, none, none, none, none, none, none, none, none, none, none, none, none, none, none, none, none] [some 0, none, none, none, none, none, none, none, none, none, none, none, none, none, none, none, none, none, none, none, none, none, none, none, none] zyw_Arrays_fill_24 zyw_Pilot_findByTwo zye_Pilot_findByTwo (by decide +kernel) (zt_Arrays_fill_24 hr1) trivial ⟨rfl, trivial⟩ rfl rfl rfl rfl rfl rfl rfl) zd171_11 zxt78 rfl (by decide) (by decide) rfl ?_
  refine zv_con hB zd171_14 rfl ?_
  refine zv_ist hB zd171_15 rfl rfl rfl ?_
  obtain ⟨q6, hq6, h⟩ := zi_bind h
  refine zv_wk hB (L' := [.inr 0, .inr 1, .inr 2, .inr 3, .inr 1000, .inl x5, .inl x6, .inl 1]) (F' := [.inl 0, .inr 5, .inr 6, .inl f3, .inl f4, .inl f5, .inl f6, .inl f7, .inl f8, .inl f9, .inl f10, .inl f11, .inl f12, .inl f13, .inl f14, .inl f15, .inl f16, .inl f17, .inl f18, .inl f19, .inl f20, .inl f21, .inl f22, .inl f23, .inl f24, .inl f25, .inl f26, .inl f27, .inl f28, .inl f29]) ⟨fun _ => rfl, fun _ => rfl, fun _ => rfl, fun _ => rfl, fun (h : zv_is (.inr 1000)) => (Nat.lt_irrefl 1000 h).elim, fun _ => rfl, fun _ => rfl, fun _ => rfl, trivial⟩ ⟨fun _ => rfl, fun _ => rfl, fun _ => rfl, fun _ => rfl, fun _ => rfl, fun _ => rfl, fun _ => rfl, fun _ => rfl, fun _ => rfl, fun _ => rfl, fun _ => rfl, fun _ => rfl, fun _ => rfl, fun _ => rfl, fun _ => rfl, fun _ => rfl, fun _ => rfl, fun _ => rfl, fun _ => rfl, fun _ => rfl, fun _ => rfl, fun _ => rfl, fun _ => rfl, fun _ => rfl, fun _ => rfl, fun _ => rfl, fun _ => rfl, fun _ => rfl, fun _ => rfl, fun _ => rfl, trivial⟩ ?_
  refine l0 _ _ _ _ _ _ _ _ _ _ _ _ _ _ _ _ _ _ _ _ _ _ _ _ _ _ _ _ _ _ _ _ _ _ _ _ q6 hq6 ?_
  show good 48 [.inr 0, .inr 1, .inr 2, .inr 3, .inr 1000, .inl x5, .inl x6, .inr 1000] [] [.inl q6.1, .inr 5, .inr 6, .inl f3, .inl q6.2.1, .inl q6.2.2.1, .inl q6.2.2.2.1, .inl q6.2.2.2.2.1, .inl f8, .inl f9, .inl f10, .inl f11, .inl q6.2.2.2.2.2.1, .inl q6.2.2.2.2.2.2.1, .inl f14, .inl q6.2.2.2.2.2.2.2.1, .inl f16, .inl f17, .inl f18, .inl f19, .inl f20, .inl f21, .inl f22, .inl f23, .inl f24, .inl f25, .inl f26, .inl f27, .inl f28, .inl f29] [q6.2.2.2.2.2.2.2.2.1, q6.2.2.2.2.2.2.2.2.2.1, q6.2.2.2.2.2.2.2.2.2.2.1, q6.2.2.2.2.2.2.2.2.2.2.2.1, g4, g5, g6, g7, g8, q6.2.2.2.2.2.2.2.2.2.2.2.2.1, g10, g11, q6.2.2.2.2.2.2.2.2.2.2.2.2.2.1, q6.2.2.2.2.2.2.2.2.2.2.2.2.2.2.1, q6.2.2.2.2.2.2.2.2.2.2.2.2.2.2.2.1, g15, g16, q6.2.2.2.2.2.2.2.2.2.2.2.2.2.2.2.2, g18, g19, g20, g21, g22, g23, g24]
  refine zv_ald hB zd171_48 rfl rfl rfl ?_
  refine zv_con hB zd171_49 rfl ?_
  refine zv_putf hB zd171_50 rfl rfl (fun h => by cases h) rfl ?_
  refine zv_con hB zd171_53 rfl ?_
  refine zv_ist hB zd171_54 rfl rfl rfl ?_
  obtain ⟨q13, hq13, h⟩ := zi_bind h
  refine l1 _ _ _ _ _ _ _ _ _ _ _ _ _ _ _ _ _ _ _ _ _ _ _ _ _ _ _ _ _ _ _ _ _ _ _ _ q13 hq13 ?_
  show good 110 [.inr 0, .inr 1000, .inr 1000, .inr 1000, .inr 1000, .inr 1000, .inr 1000, .inr 1000] [] [.inl q6.1, .inr 5, .inr 6, .inl q13.1, .inl q13.2.1, .inl q13.2.2.1, .inl q13.2.2.2.1, .inl q13.2.2.2.2.1, .inl q13.2.2.2.2.2.1, .inl q13.2.2.2.2.2.2.1, .inl q13.2.2.2.2.2.2.2.1, .inl f11, .inl q13.2.2.2.2.2.2.2.2.1, .inl q13.2.2.2.2.2.2.2.2.2.1, .inl f14, .inl q13.2.2.2.2.2.2.2.2.2.2.1, .inl f16, .inl f17, .inl q13.2.2.2.2.2.2.2.2.2.2.2.1, .inl f19, .inl f20, .inl f21, .inl f22, .inl f23, .inl f24, .inl q13.2.2.2.2.2.2.2.2.2.2.2.2.1, .inl f26, .inl f27, .inl f28, .inl f29] [q6.2.2.2.2.2.2.2.2.1, q13.2.2.2.2.2.2.2.2.2.2.2.2.2.1, q13.2.2.2.2.2.2.2.2.2.2.2.2.2.2.1, q13.2.2.2.2.2.2.2.2.2.2.2.2.2.2.2.1, q13.2.2.2.2.2.2.2.2.2.2.2.2.2.2.2.2.1, g5, g6, g7, g8, q13.2.2.2.2.2.2.2.2.2.2.2.2.2.2.2.2.2.1, g10, g11, q6.2.2.2.2.2.2.2.2.2.2.2.2.2.1, q6.2.2.2.2.2.2.2.2.2.2.2.2.2.2.1, q6.2.2.2.2.2.2.2.2.2.2.2.2.2.2.2.1, q13.2.2.2.2.2.2.2.2.2.2.2.2.2.2.2.2.2.2.1, q13.2.2.2.2.2.2.2.2.2.2.2.2.2.2.2.2.2.2.2.1, q13.2.2.2.2.2.2.2.2.2.2.2.2.2.2.2.2.2.2.2.2.1, g18, g19, g20, g21, g22, q13.2.2.2.2.2.2.2.2.2.2.2.2.2.2.2.2.2.2.2.2.2.1, q13.2.2.2.2.2.2.2.2.2.2.2.2.2.2.2.2.2.2.2.2.2.2]
  refine zv_ald hB zd171_110 rfl rfl rfl ?_
  refine zv_getf hB zd171_111 rfl rfl (fun _ _ => ?_)
  refine zv_con hB zd171_114 rfl ?_
  refine zv_cne hB zd171_115 rfl (fun hc14 => ?_) (fun hc14 => ?_)
  · rw [if_neg hc14] at h
    refine zv_ald hB zd171_120 rfl rfl rfl ?_
    refine zv_ald hB zd171_121 rfl rfl rfl ?_
    refine zv_getf hB zd171_122 rfl rfl (fun _ _ => ?_)
    refine zv_con hB zd171_125 rfl ?_
    refine zv_divw hB zd171_128 (by decide) ?_
    refine zv_putf hB zd171_129 rfl rfl (fun h => by cases h) rfl ?_
    refine zv_ald hB zd171_132 rfl rfl rfl ?_
    refine zv_ald hB zd171_133 rfl rfl rfl ?_
    refine zv_getf hB zd171_134 rfl rfl (fun _ _ => ?_)
    refine zv_con hB zd171_137 rfl ?_
    refine zv_divw hB zd171_140 (by decide) ?_
    refine zv_con hB zd171_141 rfl ?_
    refine zv_remw hB zd171_143 (by decide) ?_
    refine zv_putf hB zd171_144 rfl rfl (fun h => by cases h) rfl ?_
    refine zv_ald hB zd171_147 rfl rfl rfl ?_
    refine zv_ald hB zd171_148 rfl rfl rfl ?_
    refine zv_getf hB zd171_149 rfl rfl (fun _ _ => ?_)
    refine zv_con hB zd171_152 rfl ?_
    refine zv_divw hB zd171_154 (by decide) ?_
    refine zv_con hB zd171_155 rfl ?_
    refine zv_remw hB zd171_157 (by decide) ?_
    refine zv_putf hB zd171_158 rfl rfl (fun h => by cases h) rfl ?_
    refine zv_ald hB zd171_161 rfl rfl rfl ?_
    refine zv_ald hB zd171_162 rfl rfl rfl ?_
    refine zv_getf hB zd171_163 rfl rfl (fun _ _ => ?_)
    refine zv_con hB zd171_166 rfl ?_
    refine zv_remw hB zd171_168 (by decide) ?_
    refine zv_putf hB zd171_169 rfl rfl (fun h => by cases h) rfl ?_
    refine zv_con hB zd171_172 rfl ?_
    have hw := Option.some.inj h
    subst hw
    exact hret _ _ _ _ _ zd171_173 (by constructor <;> decide) ⟨rfl, rfl, rfl⟩
  · rw [if_pos hc14] at h
    refine zv_con hB zd171_118 rfl ?_
    have hw := Option.some.inj h
    subst hw
    exact hret _ _ _ _ _ zd171_119 (by constructor <;> decide) ⟨rfl, rfl, rfl⟩
end
