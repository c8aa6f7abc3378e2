/-! Methods as functions, and that they do what these do. -/
/-! X_where (I)I -/
-- names: 0 StarTales('arg', 0), 1 Tale(0, 0, 10), 2 View(0, 0, 12), 3 Sky(0, 0, 0), 4 Law(0, 0, 7), 5 (0, 24)(2, 7, 8), 6 (0, 13)(4, 4, 12), 7 (0, 24)(3, 1, 1), 8 (0, 24)(3, 1, 2), 9 (0, 24)(3, 1, 3), 10 (0, 14)(4, 4, 3), 11 (0, 14)(4, 4, 5), 12 (0, 14)(4, 4, 6), 13 (0, 200)(4, 4, 0), 14 (0, 40)(4, 4, 13), 15 (0, 200)(4, 4, 1), 16 (0, 24)(2, 7, 5), 17 (0, 24)(2, 7, 9), 18 Matcher(0, 0, 14), 19 (0, 72)(18, 8, 0), 20 (0, 8)(1, 6, 2), 21 (0, 24)(18, 8, 1), 22 (0, 8)(18, 8, 2)
-- fields: f0 = 0.telling_, f1 = 1.lines_, f2 = 0.ruling_, f3 = 2.sky_, f4 = 2.law_, f5 = 2.starsAsked_, f6 = 2.x_, f7 = 2.y_, f8 = 3.hour_, f9 = 3.night_, f10 = 2.shown_, f11 = 3.told_, f12 = 3.sightColumns_, f13 = 3.sightRows_, f14 = 3.clouds_, f15 = 4.tellsSeen_, f16 = 2.starsHold_, f17 = 4.clauses_, f18 = 4.answer_, f19 = 4.seenByPlace_, f20 = 1.names_, f21 = 4.tellsLines_, f22 = 4.linesByPlace_, f23 = 18.tale_, f24 = 18.joined_, f25 = 18.deadEnds_; arrays: g0 = 5, g1 = 6, g2 = 7, g3 = 8, g4 = 9, g5 = 10, g6 = 11, g7 = 12, g8 = 13, g9 = 14, g10 = 15, g11 = 16, g12 = 17, g13 = 19, g14 = 20, g15 = 21, g16 = 22; out: [('ret', None), ('f', 5), ('f', 6), ('f', 7), ('f', 10), ('f', 16), ('f', 18), ('f', 25), ('g', 0), ('g', 1), ('g', 9), ('g', 11), ('g', 12), ('g', 13), ('g', 15), ('g', 16)]
abbrev zy_X_where : zNL := (23, [(0, 0), (1, 6), (2, 7), (3, 1), (4, 4), (18, 8)], [(0, 0, 10, 0), (1, 6, 0, 1), (0, 0, 7, 2), (2, 7, 0, 3), (2, 7, 1, 4), (2, 7, 6, 5), (2, 7, 2, 6), (2, 7, 3, 7), (3, 1, 6, 8), (3, 1, 7, 9), (2, 7, 4, 10), (3, 1, 0, 11), (3, 1, 9, 12), (3, 1, 10, 13), (3, 1, 8, 14), (4, 4, 8, 15), (2, 7, 7, 16), (4, 4, 7, 17), (4, 4, 14, 18), (4, 4, 10, 19), (1, 6, 1, 20), (4, 4, 9, 21), (4, 4, 11, 22), (18, 8, 3, 23), (18, 8, 4, 24), (18, 8, 6, 25)], [(0, 0, 12, 2), (0, 0, 0, 3), (2, 7, 8, 5), (4, 4, 12, 6), (3, 1, 1, 7), (3, 1, 2, 8), (3, 1, 3, 9), (4, 4, 3, 10), (4, 4, 5, 11), (4, 4, 6, 12), (4, 4, 0, 13), (4, 4, 13, 14), (4, 4, 1, 15), (2, 7, 5, 16), (2, 7, 9, 17), (0, 0, 14, 18), (18, 8, 0, 19), (1, 6, 2, 20), (18, 8, 1, 21), (18, 8, 2, 22)], [(5, 0, 24, 0), (6, 0, 13, 1), (7, 0, 24, 2), (8, 0, 24, 3), (9, 0, 24, 4), (10, 0, 14, 5), (11, 0, 14, 6), (12, 0, 14, 7), (13, 0, 200, 8), (14, 0, 40, 9), (15, 0, 200, 10), (16, 0, 24, 11), (17, 0, 24, 12), (19, 0, 72, 13), (20, 0, 8, 14), (21, 0, 24, 15), (22, 0, 8, 16)])
theorem zyw_X_where : zv_wf zy_X_where = true := by decide +kernel
theorem zye_X_where : zv_ek2 zy_X_where = true := by decide +kernel
def zf_X_where_l0_b (x1 : Int) (f8 : Int) (f9 : Int) (f11 : Int) (f12 : Int) (f13 : Int) (f14 : Int) (f15 : Int) (f17 : Int) (f19 : Int) (f20 : Int) (f21 : Int) (f22 : Int) (g2 : (Int → Int)) (g3 : (Int → Int)) (g4 : (Int → Int)) (g5 : (Int → Int)) (g6 : (Int → Int)) (g7 : (Int → Int)) (g8 : (Int → Int)) (g10 : (Int → Int)) (g14 : (Int → Int)) (rec : Int → Int → Int → Int → Int → Int → Int → Int → Int → (Int → Int) → (Int → Int) → (Int → Int) → (Int → Int) → (Int → Int) → (Int → Int) → (Int → Int) → (Int → Int) → Option (((Int × Int × Int × Int × Int × Int × Int × Int × (Int → Int) × (Int → Int) × (Int → Int) × (Int → Int) × (Int → Int) × (Int → Int) × (Int → Int) × (Int → Int)) ⊕ (Int × Int × Int × Int × Int × Int × Int × Int × (Int → Int) × (Int → Int) × (Int → Int) × (Int → Int) × (Int → Int) × (Int → Int) × (Int → Int) × (Int → Int))))) (x2 : Int) (x3 : Int) (f5 : Int) (f6 : Int) (f7 : Int) (f10 : Int) (f16 : Int) (f18 : Int) (f25 : Int) (g0 : (Int → Int)) (g1 : (Int → Int)) (g9 : (Int → Int)) (g11 : (Int → Int)) (g12 : (Int → Int)) (g13 : (Int → Int)) (g15 : (Int → Int)) (g16 : (Int → Int)) : Option (((Int × Int × Int × Int × Int × Int × Int × Int × (Int → Int) × (Int → Int) × (Int → Int) × (Int → Int) × (Int → Int) × (Int → Int) × (Int → Int) × (Int → Int)) ⊕ (Int × Int × Int × Int × Int × Int × Int × Int × (Int → Int) × (Int → Int) × (Int → Int) × (Int → Int) × (Int → Int) × (Int → Int) × (Int → Int) × (Int → Int)))) := if x3 < 288 then ((zf_X_canBeTold x3 f6 f7 f8 f9 f10 f11 f12 f13 f14 f15 f5 f16 f17 f18 f19 f20 f21 f22 f25 g1 g2 g3 g4 g5 g6 g7 g8 g9 g10 g11 g0 g12 g13 g14 g15 g16).bind fun r6 => (if r6.1 = 0 then (rec x2 (zi_w (x3 + 1)) r6.2.2.2.2.1 r6.2.1 r6.2.2.1 r6.2.2.2.1 r6.2.2.2.2.2.1 r6.2.2.2.2.2.2.1 r6.2.2.2.2.2.2.2.1 r6.2.2.2.2.2.2.2.2.2.2.2.1 r6.2.2.2.2.2.2.2.2.1 r6.2.2.2.2.2.2.2.2.2.1 r6.2.2.2.2.2.2.2.2.2.2.1 r6.2.2.2.2.2.2.2.2.2.2.2.2.1 r6.2.2.2.2.2.2.2.2.2.2.2.2.2.1 r6.2.2.2.2.2.2.2.2.2.2.2.2.2.2.1 r6.2.2.2.2.2.2.2.2.2.2.2.2.2.2.2) else (if x1 = 1 then (some (.inr (x3, r6.2.2.2.2.1, r6.2.1, r6.2.2.1, r6.2.2.2.1, r6.2.2.2.2.2.1, r6.2.2.2.2.2.2.1, r6.2.2.2.2.2.2.2.1, r6.2.2.2.2.2.2.2.2.2.2.2.1, r6.2.2.2.2.2.2.2.2.1, r6.2.2.2.2.2.2.2.2.2.1, r6.2.2.2.2.2.2.2.2.2.2.1, r6.2.2.2.2.2.2.2.2.2.2.2.2.1, r6.2.2.2.2.2.2.2.2.2.2.2.2.2.1, r6.2.2.2.2.2.2.2.2.2.2.2.2.2.2.1, r6.2.2.2.2.2.2.2.2.2.2.2.2.2.2.2))) else (rec (zi_w (x2 + 1)) (zi_w (x3 + 1)) r6.2.2.2.2.1 r6.2.1 r6.2.2.1 r6.2.2.2.1 r6.2.2.2.2.2.1 r6.2.2.2.2.2.2.1 r6.2.2.2.2.2.2.2.1 r6.2.2.2.2.2.2.2.2.2.2.2.1 r6.2.2.2.2.2.2.2.2.1 r6.2.2.2.2.2.2.2.2.2.1 r6.2.2.2.2.2.2.2.2.2.2.1 r6.2.2.2.2.2.2.2.2.2.2.2.2.1 r6.2.2.2.2.2.2.2.2.2.2.2.2.2.1 r6.2.2.2.2.2.2.2.2.2.2.2.2.2.2.1 r6.2.2.2.2.2.2.2.2.2.2.2.2.2.2.2)))) else (some (.inl (x2, f5, f6, f7, f10, f16, f18, f25, g0, g1, g9, g11, g12, g13, g15, g16)))
def zf_X_where_l0 (x1 : Int) (f8 : Int) (f9 : Int) (f11 : Int) (f12 : Int) (f13 : Int) (f14 : Int) (f15 : Int) (f17 : Int) (f19 : Int) (f20 : Int) (f21 : Int) (f22 : Int) (g2 : (Int → Int)) (g3 : (Int → Int)) (g4 : (Int → Int)) (g5 : (Int → Int)) (g6 : (Int → Int)) (g7 : (Int → Int)) (g8 : (Int → Int)) (g10 : (Int → Int)) (g14 : (Int → Int)) : Nat → Int → Int → Int → Int → Int → Int → Int → Int → Int → (Int → Int) → (Int → Int) → (Int → Int) → (Int → Int) → (Int → Int) → (Int → Int) → (Int → Int) → (Int → Int) → Option (((Int × Int × Int × Int × Int × Int × Int × Int × (Int → Int) × (Int → Int) × (Int → Int) × (Int → Int) × (Int → Int) × (Int → Int) × (Int → Int) × (Int → Int)) ⊕ (Int × Int × Int × Int × Int × Int × Int × Int × (Int → Int) × (Int → Int) × (Int → Int) × (Int → Int) × (Int → Int) × (Int → Int) × (Int → Int) × (Int → Int))))
  | 0, _, _, _, _, _, _, _, _, _, _, _, _, _, _, _, _, _ => none
  | n + 1, x2, x3, f5, f6, f7, f10, f16, f18, f25, g0, g1, g9, g11, g12, g13, g15, g16 => zf_X_where_l0_b x1 f8 f9 f11 f12 f13 f14 f15 f17 f19 f20 f21 f22 g2 g3 g4 g5 g6 g7 g8 g10 g14 (zf_X_where_l0 x1 f8 f9 f11 f12 f13 f14 f15 f17 f19 f20 f21 f22 g2 g3 g4 g5 g6 g7 g8 g10 g14 n) x2 x3 f5 f6 f7 f10 f16 f18 f25 g0 g1 g9 g11 g12 g13 g15 g16
def zf_X_where (x1 : Int) (f1 : Int) (f5 : Int) (f6 : Int) (f7 : Int) (f8 : Int) (f9 : Int) (f10 : Int) (f11 : Int) (f12 : Int) (f13 : Int) (f14 : Int) (f15 : Int) (f16 : Int) (f17 : Int) (f18 : Int) (f19 : Int) (f20 : Int) (f21 : Int) (f22 : Int) (f25 : Int) (g0 : (Int → Int)) (g1 : (Int → Int)) (g2 : (Int → Int)) (g3 : (Int → Int)) (g4 : (Int → Int)) (g5 : (Int → Int)) (g6 : (Int → Int)) (g7 : (Int → Int)) (g8 : (Int → Int)) (g9 : (Int → Int)) (g10 : (Int → Int)) (g11 : (Int → Int)) (g12 : (Int → Int)) (g13 : (Int → Int)) (g14 : (Int → Int)) (g15 : (Int → Int)) (g16 : (Int → Int)) : Option (Int × Int × Int × Int × Int × Int × Int × Int × (Int → Int) × (Int → Int) × (Int → Int) × (Int → Int) × (Int → Int) × (Int → Int) × (Int → Int) × (Int → Int)) := (zf_X_isWithin x1 0 1).bind fun r1 => (if r1 = 0 then (some ((-1), f5, f6, f7, f10, f16, f18, f25, g0, g1, g9, g11, g12, g13, g15, g16)) else (if f1 = 0 then (some ((-1), f5, f6, f7, f10, f16, f18, f25, g0, g1, g9, g11, g12, g13, g15, g16)) else ((zf_View_open f5 g0).bind fun r4 => ((zf_X_where_l0 x1 f8 f9 f11 f12 f13 f14 f15 f17 f19 f20 f21 f22 g2 g3 g4 g5 g6 g7 g8 g10 g14 zi_fu 0 0 r4.1 f6 f7 f10 f16 f18 f25 r4.2 g1 g9 g11 g12 g13 g15 g16).bind fun q9 => Sum.elim (fun e10 => (if x1 = 1 then (some ((-2), e10.2.1, e10.2.2.1, e10.2.2.2.1, e10.2.2.2.2.1, e10.2.2.2.2.2.1, e10.2.2.2.2.2.2.1, e10.2.2.2.2.2.2.2.1, e10.2.2.2.2.2.2.2.2.1, e10.2.2.2.2.2.2.2.2.2.1, e10.2.2.2.2.2.2.2.2.2.2.1, e10.2.2.2.2.2.2.2.2.2.2.2.1, e10.2.2.2.2.2.2.2.2.2.2.2.2.1, e10.2.2.2.2.2.2.2.2.2.2.2.2.2.1, e10.2.2.2.2.2.2.2.2.2.2.2.2.2.2.1, e10.2.2.2.2.2.2.2.2.2.2.2.2.2.2.2)) else (some (e10.1, e10.2.1, e10.2.2.1, e10.2.2.2.1, e10.2.2.2.2.1, e10.2.2.2.2.2.1, e10.2.2.2.2.2.2.1, e10.2.2.2.2.2.2.2.1, e10.2.2.2.2.2.2.2.2.1, e10.2.2.2.2.2.2.2.2.2.1, e10.2.2.2.2.2.2.2.2.2.2.1, e10.2.2.2.2.2.2.2.2.2.2.2.1, e10.2.2.2.2.2.2.2.2.2.2.2.2.1, e10.2.2.2.2.2.2.2.2.2.2.2.2.2.1, e10.2.2.2.2.2.2.2.2.2.2.2.2.2.2.1, e10.2.2.2.2.2.2.2.2.2.2.2.2.2.2.2)))) (fun w12 => some w12) q9))))
theorem zd122_0 : decode zxm122.2.1 0 = .ok (.iload_n 1, 1) := by decide +kernel
theorem zd122_1 : decode zxm122.2.1 1 = .ok (.iconst 0, 1) := by decide +kernel
theorem zd122_2 : decode zxm122.2.1 2 = .ok (.iconst 1, 1) := by decide +kernel
theorem zd122_3 : decode zxm122.2.1 3 = .ok (.invokestatic 126, 3) := by decide +kernel
theorem zd122_6 : decode zxm122.2.1 6 = .ok (.ifCond .eq 13, 3) := by decide +kernel
theorem zd122_9 : decode zxm122.2.1 9 = .ok (.aload_n 0, 1) := by decide +kernel
theorem zd122_10 : decode zxm122.2.1 10 = .ok (.getfield 69, 3) := by decide +kernel
theorem zd122_13 : decode zxm122.2.1 13 = .ok (.getfield 253, 3) := by decide +kernel
theorem zd122_16 : decode zxm122.2.1 16 = .ok (.ifCond .ne 5, 3) := by decide +kernel
theorem zd122_19 : decode zxm122.2.1 19 = .ok (.iconst (-1), 1) := by decide +kernel
theorem zd122_20 : decode zxm122.2.1 20 = .ok (.ireturn, 1) := by decide +kernel
theorem zd122_21 : decode zxm122.2.1 21 = .ok (.aload_n 0, 1) := by decide +kernel
theorem zd122_22 : decode zxm122.2.1 22 = .ok (.getfield 81, 3) := by decide +kernel
theorem zd122_25 : decode zxm122.2.1 25 = .ok (.aload_n 0, 1) := by decide +kernel
theorem zd122_26 : decode zxm122.2.1 26 = .ok (.getfield 10, 3) := by decide +kernel
theorem zd122_29 : decode zxm122.2.1 29 = .ok (.aload_n 0, 1) := by decide +kernel
theorem zd122_30 : decode zxm122.2.1 30 = .ok (.getfield 46, 3) := by decide +kernel
theorem zd122_33 : decode zxm122.2.1 33 = .ok (.invokevirtual 211, 3) := by decide +kernel
theorem zd122_36 : decode zxm122.2.1 36 = .ok (.iconst 0, 1) := by decide +kernel
theorem zd122_37 : decode zxm122.2.1 37 = .ok (.istore_n 2, 1) := by decide +kernel
theorem zd122_38 : decode zxm122.2.1 38 = .ok (.iconst 0, 1) := by decide +kernel
theorem zd122_39 : decode zxm122.2.1 39 = .ok (.istore_n 3, 1) := by decide +kernel
theorem zd122_40 : decode zxm122.2.1 40 = .ok (.iload_n 3, 1) := by decide +kernel
theorem zd122_41 : decode zxm122.2.1 41 = .ok (.sipush 288, 3) := by decide +kernel
theorem zd122_44 : decode zxm122.2.1 44 = .ok (.if_icmp .ge 27, 3) := by decide +kernel
theorem zd122_47 : decode zxm122.2.1 47 = .ok (.aload_n 0, 1) := by decide +kernel
theorem zd122_48 : decode zxm122.2.1 48 = .ok (.iload_n 3, 1) := by decide +kernel
theorem zd122_49 : decode zxm122.2.1 49 = .ok (.invokevirtual 270, 3) := by decide +kernel
theorem zd122_52 : decode zxm122.2.1 52 = .ok (.ifCond .eq 13, 3) := by decide +kernel
theorem zd122_55 : decode zxm122.2.1 55 = .ok (.iload_n 1, 1) := by decide +kernel
theorem zd122_56 : decode zxm122.2.1 56 = .ok (.iconst 1, 1) := by decide +kernel
theorem zd122_57 : decode zxm122.2.1 57 = .ok (.if_icmp .ne 5, 3) := by decide +kernel
theorem zd122_60 : decode zxm122.2.1 60 = .ok (.iload_n 3, 1) := by decide +kernel
theorem zd122_61 : decode zxm122.2.1 61 = .ok (.ireturn, 1) := by decide +kernel
theorem zd122_62 : decode zxm122.2.1 62 = .ok (.iinc 2 1, 3) := by decide +kernel
theorem zd122_65 : decode zxm122.2.1 65 = .ok (.iinc 3 1, 3) := by decide +kernel
theorem zd122_68 : decode zxm122.2.1 68 = .ok (.goto (-28), 3) := by decide +kernel
theorem zd122_71 : decode zxm122.2.1 71 = .ok (.iload_n 1, 1) := by decide +kernel
theorem zd122_72 : decode zxm122.2.1 72 = .ok (.iconst 1, 1) := by decide +kernel
theorem zd122_73 : decode zxm122.2.1 73 = .ok (.if_icmp .ne 8, 3) := by decide +kernel
theorem zd122_76 : decode zxm122.2.1 76 = .ok (.bipush (-2), 2) := by decide +kernel
theorem zd122_78 : decode zxm122.2.1 78 = .ok (.goto 4, 3) := by decide +kernel
theorem zd122_81 : decode zxm122.2.1 81 = .ok (.iload_n 2, 1) := by decide +kernel
theorem zd122_82 : decode zxm122.2.1 82 = .ok (.ireturn, 1) := by decide +kernel
theorem zt_X_where {x1 : Int} {f1 : Int} {f5 : Int} {f6 : Int} {f7 : Int} {f8 : Int} {f9 : Int} {f10 : Int} {f11 : Int} {f12 : Int} {f13 : Int} {f14 : Int} {f15 : Int} {f16 : Int} {f17 : Int} {f18 : Int} {f19 : Int} {f20 : Int} {f21 : Int} {f22 : Int} {f25 : Int} {g0 : (Int → Int)} {g1 : (Int → Int)} {g2 : (Int → Int)} {g3 : (Int → Int)} {g4 : (Int → Int)} {g5 : (Int → Int)} {g6 : (Int → Int)} {g7 : (Int → Int)} {g8 : (Int → Int)} {g9 : (Int → Int)} {g10 : (Int → Int)} {g11 : (Int → Int)} {g12 : (Int → Int)} {g13 : (Int → Int)} {g14 : (Int → Int)} {g15 : (Int → Int)} {g16 : (Int → Int)} {o : Int × Int × Int × Int × Int × Int × Int × Int × (Int → Int) × (Int → Int) × (Int → Int) × (Int → Int) × (Int → Int) × (Int → Int) × (Int → Int) × (Int → Int)} (h : zf_X_where x1 f1 f5 f6 f7 f8 f9 f10 f11 f12 f13 f14 f15 f16 f17 f18 f19 f20 f21 f22 f25 g0 g1 g2 g3 g4 g5 g6 g7 g8 g9 g10 g11 g12 g13 g14 g15 g16 = some o) : zv_Fn z_TB z_cl z_KX zy_X_where zxm122 (14, 840) [.inr 0, .inl x1] [.inr 1, .inl f1, .inr 4, .inr 1000, .inr 1000, .inl f5, .inl f6, .inl f7, .inl f8, .inl f9, .inl f10, .inl f11, .inl f12, .inl f13, .inl f14, .inl f15, .inl f16, .inl f17, .inl f18, .inl f19, .inl f20, .inl f21, .inl f22, .inr 1000, .inr 1000, .inl f25] [g0, g1, g2, g3, g4, g5, g6, g7, g8, g9, g10, g11, g12, g13, g14, g15, g16] (some o.1) [.inr 1, .inl f1, .inr 4, .inr 1000, .inr 1000, .inl o.2.1, .inl o.2.2.1, .inl o.2.2.2.1, .inl f8, .inl f9, .inl o.2.2.2.2.1, .inl f11, .inl f12, .inl f13, .inl f14, .inl f15, .inl o.2.2.2.2.2.1, .inl f17, .inl o.2.2.2.2.2.2.1, .inl f19, .inl f20, .inl f21, .inl f22, .inr 1000, .inr 1000, .inl o.2.2.2.2.2.2.2.1] [o.2.2.2.2.2.2.2.2.1, o.2.2.2.2.2.2.2.2.2.1, g2, g3, g4, g5, g6, g7, g8, o.2.2.2.2.2.2.2.2.2.2.1, g10, o.2.2.2.2.2.2.2.2.2.2.2.1, o.2.2.2.2.2.2.2.2.2.2.2.2.1, o.2.2.2.2.2.2.2.2.2.2.2.2.2.1, g14, o.2.2.2.2.2.2.2.2.2.2.2.2.2.2.1, o.2.2.2.2.2.2.2.2.2.2.2.2.2.2.2] := zv_meth (K := (z_KF0, z_KC0, z_KL0, z_KT0, [], [], [], none)) (FT := z_FT) (MT := z_MT) (n := 2) zxp122 (z_ks0 _ (fun _ h => List.mem_cons_of_mem _ h) _ _ _ _ (fun j r h _ => by cases h)) (fun _ _ => zs_KX_p) zyw_X_where (fun va F G h => by obtain ⟨rfl, _⟩ := h; rfl) (fun va F G h => by obtain ⟨rfl, _⟩ := h; rfl) rfl fun good va F G hB hret hvret hP => by
  obtain ⟨rfl, rfl, rfl⟩ := hP
  have l0 : ∀ (n : Nat) (x1 : Int) (x2 : Int) (x3 : Int) (f5 : Int) (f6 : Int) (f7 : Int) (f10 : Int) (f16 : Int) (f18 : Int) (f25 : Int) (g0 : (Int → Int)) (g1 : (Int → Int)) (g9 : (Int → Int)) (g11 : (Int → Int)) (g12 : (Int → Int)) (g13 : (Int → Int)) (g15 : (Int → Int)) (g16 : (Int → Int)) (q : ((Int × Int × Int × Int × Int × Int × Int × Int × (Int → Int) × (Int → Int) × (Int → Int) × (Int → Int) × (Int → Int) × (Int → Int) × (Int → Int) × (Int → Int)) ⊕ (Int × Int × Int × Int × Int × Int × Int × Int × (Int → Int) × (Int → Int) × (Int → Int) × (Int → Int) × (Int → Int) × (Int → Int) × (Int → Int) × (Int → Int)))), zf_X_where_l0 x1 f8 f9 f11 f12 f13 f14 f15 f17 f19 f20 f21 f22 g2 g3 g4 g5 g6 g7 g8 g10 g14 n x2 x3 f5 f6 f7 f10 f16 f18 f25 g0 g1 g9 g11 g12 g13 g15 g16 = some q → (Sum.elim (fun e : Int × Int × Int × Int × Int × Int × Int × Int × (Int → Int) × (Int → Int) × (Int → Int) × (Int → Int) × (Int → Int) × (Int → Int) × (Int → Int) × (Int → Int) => good 71 [.inr 1000, .inl x1, .inl e.1, .inr 1000] [] [.inr 1, .inl f1, .inr 4, .inr 3, .inr 4, .inl e.2.1, .inl e.2.2.1, .inl e.2.2.2.1, .inl f8, .inl f9, .inl e.2.2.2.2.1, .inl f11, .inl f12, .inl f13, .inl f14, .inl f15, .inl e.2.2.2.2.2.1, .inl f17, .inl e.2.2.2.2.2.2.1, .inl f19, .inl f20, .inl f21, .inl f22, .inr 1000, .inr 1000, .inl e.2.2.2.2.2.2.2.1] [e.2.2.2.2.2.2.2.2.1, e.2.2.2.2.2.2.2.2.2.1, g2, g3, g4, g5, g6, g7, g8, e.2.2.2.2.2.2.2.2.2.2.1, g10, e.2.2.2.2.2.2.2.2.2.2.2.1, e.2.2.2.2.2.2.2.2.2.2.2.2.1, e.2.2.2.2.2.2.2.2.2.2.2.2.2.1, g14, e.2.2.2.2.2.2.2.2.2.2.2.2.2.2.1, e.2.2.2.2.2.2.2.2.2.2.2.2.2.2.2]) (fun w : Int × Int × Int × Int × Int × Int × Int × Int × (Int → Int) × (Int → Int) × (Int → Int) × (Int → Int) × (Int → Int) × (Int → Int) × (Int → Int) × (Int → Int) => w = o) q) → good 40 [.inr 0, .inl x1, .inl x2, .inl x3] [] [.inr 1, .inl f1, .inr 4, .inr 3, .inr 4, .inl f5, .inl f6, .inl f7, .inl f8, .inl f9, .inl f10, .inl f11, .inl f12, .inl f13, .inl f14, .inl f15, .inl f16, .inl f17, .inl f18, .inl f19, .inl f20, .inl f21, .inl f22, .inr 1000, .inr 1000, .inl f25] [g0, g1, g2, g3, g4, g5, g6, g7, g8, g9, g10, g11, g12, g13, g14, g15, g16] := by
    intro n
    induction n with
    | zero => intro x1 x2 x3 f5 f6 f7 f10 f16 f18 f25 g0 g1 g9 g11 g12 g13 g15 g16 q h; exact absurd (show none = some q from h) (fun h => by cases h)
    | succ n ih =>
      intro x1 x2 x3 f5 f6 f7 f10 f16 f18 f25 g0 g1 g9 g11 g12 g13 g15 g16 q h hK
      replace h : zf_X_where_l0_b x1 f8 f9 f11 f12 f13 f14 f15 f17 f19 f20 f21 f22 g2 g3 g4 g5 g6 g7 g8 g10 g14 (zf_X_where_l0 x1 f8 f9 f11 f12 f13 f14 f15 f17 f19 f20 f21 f22 g2 g3 g4 g5 g6 g7 g8 g10 g14 n) x2 x3 f5 f6 f7 f10 f16 f18 f25 g0 g1 g9 g11 g12 g13 g15 g16 = some q := h
      unfold zf_X_where_l0_b at h
      refine zv_ild hB zd122_40 rfl rfl ?_
      refine zv_con hB zd122_41 rfl ?_
      refine zv_cge hB zd122_44 rfl (fun hc5 => ?_) (fun hc5 => ?_)
      · rw [if_neg (Int.not_lt.mpr hc5)] at h
        have hq := Option.some.inj h
        subst hq
        refine zv_wk hB (L' := [.inr 1000, .inl x1, .inl x2, .inr 1000]) (F' := [.inr 1, .inl f1, .inr 4, .inr 3, .inr 4, .inl f5, .inl f6, .inl f7, .inl f8, .inl f9, .inl f10, .inl f11, .inl f12, .inl f13, .inl f14, .inl f15, .inl f16, .inl f17, .inl f18, .inl f19, .inl f20, .inl f21, .inl f22, .inr 1000, .inr 1000, .inl f25]) ⟨fun (h : zv_is (.inr 1000)) => (Nat.lt_irrefl 1000 h).elim, fun _ => rfl, fun _ => rfl, fun (h : zv_is (.inr 1000)) => (Nat.lt_irrefl 1000 h).elim, trivial⟩ ⟨fun _ => rfl, fun _ => rfl, fun _ => rfl, fun _ => rfl, fun _ => rfl, fun _ => rfl, fun _ => rfl, fun _ => rfl, fun _ => rfl, fun _ => rfl, fun _ => rfl, fun _ => rfl, fun _ => rfl, fun _ => rfl, fun _ => rfl, fun _ => rfl, fun _ => rfl, fun _ => rfl, fun _ => rfl, fun _ => rfl, fun _ => rfl, fun _ => rfl, fun _ => rfl, fun (h : zv_is (.inr 1000)) => (Nat.lt_irrefl 1000 h).elim, fun (h : zv_is (.inr 1000)) => (Nat.lt_irrefl 1000 h).elim, fun _ => rfl, trivial⟩ ?_
        exact hK
      · rw [if_pos hc5] at h
        refine zv_ald hB zd122_47 rfl rfl rfl ?_
        refine zv_ild hB zd122_48 rfl rfl ?_
        obtain ⟨r6, hr6, h⟩ := zi_bind h
        refine zv_cv hB (zv_emq (va2 := [.inr 0, .inl x3]) (F := [.inr 1, .inl f1, .inr 4, .inr 3, .inr 4, .inl f5, .inl f6, .inl f7, .inl f8, .inl f9, .inl f10, .inl f11, .inl f12, .inl f13, .inl f14, .inl f15, .inl f16, .inl f17, .inl f18, .inl f19, .inl f20, .inl f21, .inl f22, .inr 1000, .inr 1000, .inl f25]) (F' := [.inr 1, .inl f1, .inr 4, .inr 3, .inr 4, .inl r6.2.2.2.2.1, .inl r6.2.1, .inl r6.2.2.1, .inl f8, .inl f9, .inl r6.2.2.2.1, .inl f11, .inl f12, .inl f13, .inl f14, .inl f15, .inl r6.2.2.2.2.2.1, .inl f17, .inl r6.2.2.2.2.2.2.1, .inl f19, .inl f20, .inl f21, .inl f22, .inr 1000, .inr 1000, .inl r6.2.2.2.2.2.2.2.1]) (G := [g0, g1, g2, g3, g4, g5, g6, g7, g8, g9, g10, g11, g12, g13, g14, g15, g16]) (G' := [r6.2.2.2.2.2.2.2.2.2.2.2.1, r6.2.2.2.2.2.2.2.2.1, g2, g3, g4, g5, g6, g7, g8, r6.2.2.2.2.2.2.2.2.2.1, g10, r6.2.2.2.2.2.2.2.2.2.2.1, r6.2.2.2.2.2.2.2.2.2.2.2.2.1, r6.2.2.2.2.2.2.2.2.2.2.2.2.2.1, g14, r6.2.2.2.2.2.2.2.2.2.2.2.2.2.2.1, r6.2.2.2.2.2.2.2.2.2.2.2.2.2.2.2]) (ρ := [0, 2, 4, 6, 3, 7, 8, 9, 10, 11, 12, 13, 14, 15, 1, 16, 5, 17, 18, 19, 20, 21, 22]) (φ := [4, 3, 6, 7, 8, 9, 10, 11, 12, 13, 14, 15, 5, 16, 17, 18, 19, 0, 20, 21, 22, 23, 24, 25]) (ψ := [1, 2, 3, 4, 5, 6, 7, 8, 9, 10, 11, 0, 12, 13, 14, 15, 16]) [some 17, none, none, some 1, some 0, some 12, some 2, some 3, some 4, some 5, some 6, some 7, some 8, some 9, some 10, some 11, some 13, some 14, some 15, some 16, some 18, some 19, some 20, some 21, some 22, some 23] [some 11, some 0, some 1, some 2, some 3, some 4, some 5, some 6, some 7, some 8, some 9, some 10, some 12, some 13, some 14, some 15, some 16] zyw_X_canBeTold zyw_X_where zye_X_where (by decide +kernel) (zt_X_canBeTold hr6) ⟨⟨_, rfl, fun _ => rfl⟩, ⟨_, rfl, fun _ => rfl⟩, ⟨_, rfl, fun _ => rfl⟩, ⟨_, rfl, fun _ => rfl⟩, ⟨_, rfl, fun _ => rfl⟩, ⟨_, rfl, fun _ => rfl⟩, ⟨_, rfl, fun _ => rfl⟩, ⟨_, rfl, fun _ => rfl⟩, ⟨_, rfl, fun _ => rfl⟩, ⟨_, rfl, fun _ => rfl⟩, ⟨_, rfl, fun _ => rfl⟩, ⟨_, rfl, fun _ => rfl⟩, ⟨_, rfl, fun _ => rfl⟩, ⟨_, rfl, fun _ => rfl⟩, ⟨_, rfl, fun _ => rfl⟩, ⟨_, rfl, fun _ => rfl⟩, ⟨_, rfl, fun _ => rfl⟩, ⟨_, rfl, fun _ => rfl⟩, ⟨_, rfl, fun _ => rfl⟩, ⟨_, rfl, fun _ => rfl⟩, ⟨_, rfl, fun _ => rfl⟩, ⟨_, rfl, fun (h : zv_is (.inr 1000)) => (Nat.lt_irrefl 1000 h).elim⟩, ⟨_, rfl, fun (h : zv_is (.inr 1000)) => (Nat.lt_irrefl 1000 h).elim⟩, ⟨_, rfl, fun _ => rfl⟩, trivial⟩ ⟨rfl, rfl, rfl, rfl, rfl, rfl, rfl, rfl, rfl, rfl, rfl, rfl, rfl, rfl, rfl, rfl, rfl, trivial⟩ rfl rfl rfl rfl rfl rfl rfl) zd122_49 zxt123 rfl (by decide) (by decide) rfl ?_
        refine zv_zeq hB zd122_52 rfl (fun hc7 => ?_) (fun hc7 => ?_)
        · rw [if_pos hc7] at h
          refine zv_iincw hB zd122_65 rfl rfl ?_
          refine zv_goto hB zd122_68 rfl ?_
          exact ih _ _ _ _ _ _ _ _ _ _ _ _ _ _ _ _ _ _ q h hK
        · rw [if_neg hc7] at h
          refine zv_ild hB zd122_55 rfl rfl ?_
          refine zv_con hB zd122_56 rfl ?_
          refine zv_cne hB zd122_57 rfl (fun hc8 => ?_) (fun hc8 => ?_)
          · rw [if_neg hc8] at h
            refine zv_iincw hB zd122_62 rfl rfl ?_
            refine zv_iincw hB zd122_65 rfl rfl ?_
            refine zv_goto hB zd122_68 rfl ?_
            exact ih _ _ _ _ _ _ _ _ _ _ _ _ _ _ _ _ _ _ q h hK
          · rw [if_pos hc8] at h
            refine zv_ild hB zd122_60 rfl rfl ?_
            have hw : (x3, r6.2.2.2.2.1, r6.2.1, r6.2.2.1, r6.2.2.2.1, r6.2.2.2.2.2.1, r6.2.2.2.2.2.2.1, r6.2.2.2.2.2.2.2.1, r6.2.2.2.2.2.2.2.2.2.2.2.1, r6.2.2.2.2.2.2.2.2.1, r6.2.2.2.2.2.2.2.2.2.1, r6.2.2.2.2.2.2.2.2.2.2.1, r6.2.2.2.2.2.2.2.2.2.2.2.2.1, r6.2.2.2.2.2.2.2.2.2.2.2.2.2.1, r6.2.2.2.2.2.2.2.2.2.2.2.2.2.2.1, r6.2.2.2.2.2.2.2.2.2.2.2.2.2.2.2) = o := zi_rk (Option.some.inj h) hK
            refine zv_wk hB (L' := [.inr 0, .inl x1, .inl x2, .inl x3]) (F' := [.inr 1, .inl f1, .inr 4, .inr 1000, .inr 1000, .inl r6.2.2.2.2.1, .inl r6.2.1, .inl r6.2.2.1, .inl f8, .inl f9, .inl r6.2.2.2.1, .inl f11, .inl f12, .inl f13, .inl f14, .inl f15, .inl r6.2.2.2.2.2.1, .inl f17, .inl r6.2.2.2.2.2.2.1, .inl f19, .inl f20, .inl f21, .inl f22, .inr 1000, .inr 1000, .inl r6.2.2.2.2.2.2.2.1]) ⟨fun _ => rfl, fun _ => rfl, fun _ => rfl, fun _ => rfl, trivial⟩ ⟨fun _ => rfl, fun _ => rfl, fun _ => rfl, fun (h : zv_is (.inr 1000)) => (Nat.lt_irrefl 1000 h).elim, fun (h : zv_is (.inr 1000)) => (Nat.lt_irrefl 1000 h).elim, fun _ => rfl, fun _ => rfl, fun _ => rfl, fun _ => rfl, fun _ => rfl, fun _ => rfl, fun _ => rfl, fun _ => rfl, fun _ => rfl, fun _ => rfl, fun _ => rfl, fun _ => rfl, fun _ => rfl, fun _ => rfl, fun _ => rfl, fun _ => rfl, fun _ => rfl, fun _ => rfl, fun (h : zv_is (.inr 1000)) => (Nat.lt_irrefl 1000 h).elim, fun (h : zv_is (.inr 1000)) => (Nat.lt_irrefl 1000 h).elim, fun _ => rfl, trivial⟩ ?_
            subst hw
            exact hret _ _ _ _ _ zd122_61 (by trivial) ⟨rfl, rfl, rfl⟩
  unfold zf_X_where at h
  refine zv_ild hB zd122_0 rfl rfl ?_
  refine zv_con hB zd122_1 rfl ?_
  refine zv_con hB zd122_2 rfl ?_
  obtain ⟨r1, hr1, h⟩ := zi_bind h
  refine zv_cs hB (zv_emq (va2 := [.inl x1, .inl 0, .inl 1]) (F := [.inr 1, .inl f1, .inr 4, .inr 1000, .inr 1000, .inl f5, .inl f6, .inl f7, .inl f8, .inl f9, .inl f10, .inl f11, .inl f12, .inl f13, .inl f14, .inl f15, .inl f16, .inl f17, .inl f18, .inl f19, .inl f20, .inl f21, .inl f22, .inr 1000, .inr 1000, .inl f25]) (F' := [.inr 1, .inl f1, .inr 4, .inr 1000, .inr 1000, .inl f5, .inl f6, .inl f7, .inl f8, .inl f9, .inl f10, .inl f11, .inl f12, .inl f13, .inl f14, .inl f15, .inl f16, .inl f17, .inl f18, .inl f19, .inl f20, .inl f21, .inl f22, .inr 1000, .inr 1000, .inl f25]) (G := [g0, g1, g2, g3, g4, g5, g6, g7, g8, g9, g10, g11, g12, g13, g14, g15, g16]) (G' := [g0, g1, g2, g3, g4, g5, g6, g7, g8, g9, g10, g11, g12, g13, g14, g15, g16]) (ρ := []) (φ := []) (ψ := []) [none, none, none, none, none, none, none, none, none, none, none, none, none, none, none, none, none, none, none, none, none, none, none, none, none, none] [none, none, none, none, none, none, none, none, none, none, none, none, none, none, none, none, none] zyw_X_isWithin zyw_X_where zye_X_where (by decide +kernel) (zt_X_isWithin hr1) trivial trivial rfl rfl rfl rfl rfl rfl rfl) zd122_3 zxt15 rfl (by decide) (by decide) rfl ?_
  refine zv_zeq hB zd122_6 rfl (fun hc2 => ?_) (fun hc2 => ?_)
  · rw [if_pos hc2] at h
    refine zv_con hB zd122_19 rfl ?_
    have hw := Option.some.inj h
    subst hw
    exact hret _ _ _ _ _ zd122_20 (by trivial) ⟨rfl, rfl, rfl⟩
  · rw [if_neg hc2] at h
    refine zv_ald hB zd122_9 rfl rfl rfl ?_
    refine zv_getq hB zd122_10 rfl rfl rfl ?_
    refine zv_getf hB zd122_13 rfl rfl (fun _ _ => ?_)
    refine zv_zne hB zd122_16 rfl (fun hc3 => ?_) (fun hc3 => ?_)
    · rw [if_neg hc3] at h
      refine zv_ald hB zd122_21 rfl rfl rfl ?_
      refine zv_getr hB zd122_22 rfl ?_
      refine zv_ald hB zd122_25 rfl rfl rfl ?_
      refine zv_getr hB zd122_26 rfl ?_
      refine zv_ald hB zd122_29 rfl rfl rfl ?_
      refine zv_getq hB zd122_30 rfl rfl rfl ?_
      obtain ⟨r4, hr4, h⟩ := zi_bind h
      refine zv_cv hB (zv_emq (va2 := [.inr 2, .inr 3, .inr 4]) (F := [.inr 1, .inl f1, .inr 4, .inr 1000, .inr 1000, .inl f5, .inl f6, .inl f7, .inl f8, .inl f9, .inl f10, .inl f11, .inl f12, .inl f13, .inl f14, .inl f15, .inl f16, .inl f17, .inl f18, .inl f19, .inl f20, .inl f21, .inl f22, .inr 1000, .inr 1000, .inl f25]) (F' := [.inr 1, .inl f1, .inr 4, .inr 3, .inr 4, .inl r4.1, .inl f6, .inl f7, .inl f8, .inl f9, .inl f10, .inl f11, .inl f12, .inl f13, .inl f14, .inl f15, .inl f16, .inl f17, .inl f18, .inl f19, .inl f20, .inl f21, .inl f22, .inr 1000, .inr 1000, .inl f25]) (G := [g0, g1, g2, g3, g4, g5, g6, g7, g8, g9, g10, g11, g12, g13, g14, g15, g16]) (G' := [r4.2, g1, g2, g3, g4, g5, g6, g7, g8, g9, g10, g11, g12, g13, g14, g15, g16]) (ρ := [2, 3, 4, 5]) (φ := [3, 4, 5]) (ψ := [0]) [none, none, none, some 0, some 1, some 2, none, none, none, none, none, none, none, none, none, none, none, none, none, none, none, none, none, none, none, none] [some 0, none, none, none, none, none, none, none, none, none, none, none, none, none, none, none, none] zyw_View_open zyw_X_where zye_X_where (by decide +kernel) (zt_View_open hr4) ⟨⟨_, rfl, fun (h : zv_is (.inr 1000)) => (Nat.lt_irrefl 1000 h).elim⟩, ⟨_, rfl, fun (h : zv_is (.inr 1000)) => (Nat.lt_irrefl 1000 h).elim⟩, ⟨_, rfl, fun _ => rfl⟩, trivial⟩ ⟨rfl, trivial⟩ rfl rfl rfl rfl rfl rfl rfl) zd122_33 zxt84 rfl (by decide) (by decide) rfl ?_
      refine zv_con hB zd122_36 rfl ?_
      refine zv_ist hB zd122_37 rfl rfl rfl ?_
      refine zv_con hB zd122_38 rfl ?_
      refine zv_ist hB zd122_39 rfl rfl rfl ?_
      obtain ⟨q9, hq9, h⟩ := zi_bind h
      refine l0 _ _ _ _ _ _ _ _ _ _ _ _ _ _ _ _ _ _ _ q9 hq9 ?_
      rcases q9 with e10 | w12
      · replace h := zi_sl h
        show good 71 [.inr 1000, .inl x1, .inl e10.1, .inr 1000] [] [.inr 1, .inl f1, .inr 4, .inr 3, .inr 4, .inl e10.2.1, .inl e10.2.2.1, .inl e10.2.2.2.1, .inl f8, .inl f9, .inl e10.2.2.2.2.1, .inl f11, .inl f12, .inl f13, .inl f14, .inl f15, .inl e10.2.2.2.2.2.1, .inl f17, .inl e10.2.2.2.2.2.2.1, .inl f19, .inl f20, .inl f21, .inl f22, .inr 1000, .inr 1000, .inl e10.2.2.2.2.2.2.2.1] [e10.2.2.2.2.2.2.2.2.1, e10.2.2.2.2.2.2.2.2.2.1, g2, g3, g4, g5, g6, g7, g8, e10.2.2.2.2.2.2.2.2.2.2.1, g10, e10.2.2.2.2.2.2.2.2.2.2.2.1, e10.2.2.2.2.2.2.2.2.2.2.2.2.1, e10.2.2.2.2.2.2.2.2.2.2.2.2.2.1, g14, e10.2.2.2.2.2.2.2.2.2.2.2.2.2.2.1, e10.2.2.2.2.2.2.2.2.2.2.2.2.2.2.2]
        refine zv_ild hB zd122_71 rfl rfl ?_
        refine zv_con hB zd122_72 rfl ?_
        refine zv_cne hB zd122_73 rfl (fun hc11 => ?_) (fun hc11 => ?_)
        · rw [if_neg hc11] at h
          refine zv_ild hB zd122_81 rfl rfl ?_
          have hw := Option.some.inj h
          refine zv_wk hB (L' := [.inr 1000, .inl x1, .inl e10.1, .inr 1000]) (F' := [.inr 1, .inl f1, .inr 4, .inr 1000, .inr 1000, .inl e10.2.1, .inl e10.2.2.1, .inl e10.2.2.2.1, .inl f8, .inl f9, .inl e10.2.2.2.2.1, .inl f11, .inl f12, .inl f13, .inl f14, .inl f15, .inl e10.2.2.2.2.2.1, .inl f17, .inl e10.2.2.2.2.2.2.1, .inl f19, .inl f20, .inl f21, .inl f22, .inr 1000, .inr 1000, .inl e10.2.2.2.2.2.2.2.1]) ⟨fun _ => rfl, fun _ => rfl, fun _ => rfl, fun _ => rfl, trivial⟩ ⟨fun _ => rfl, fun _ => rfl, fun _ => rfl, fun (h : zv_is (.inr 1000)) => (Nat.lt_irrefl 1000 h).elim, fun (h : zv_is (.inr 1000)) => (Nat.lt_irrefl 1000 h).elim, fun _ => rfl, fun _ => rfl, fun _ => rfl, fun _ => rfl, fun _ => rfl, fun _ => rfl, fun _ => rfl, fun _ => rfl, fun _ => rfl, fun _ => rfl, fun _ => rfl, fun _ => rfl, fun _ => rfl, fun _ => rfl, fun _ => rfl, fun _ => rfl, fun _ => rfl, fun _ => rfl, fun (h : zv_is (.inr 1000)) => (Nat.lt_irrefl 1000 h).elim, fun (h : zv_is (.inr 1000)) => (Nat.lt_irrefl 1000 h).elim, fun _ => rfl, trivial⟩ ?_
          subst hw
          exact hret _ _ _ _ _ zd122_82 (by trivial) ⟨rfl, rfl, rfl⟩
        · rw [if_pos hc11] at h
          refine zv_con hB zd122_76 rfl ?_
          refine zv_goto hB zd122_78 rfl ?_
          have hw := Option.some.inj h
          refine zv_wk hB (L' := [.inr 1000, .inl x1, .inl e10.1, .inr 1000]) (F' := [.inr 1, .inl f1, .inr 4, .inr 1000, .inr 1000, .inl e10.2.1, .inl e10.2.2.1, .inl e10.2.2.2.1, .inl f8, .inl f9, .inl e10.2.2.2.2.1, .inl f11, .inl f12, .inl f13, .inl f14, .inl f15, .inl e10.2.2.2.2.2.1, .inl f17, .inl e10.2.2.2.2.2.2.1, .inl f19, .inl f20, .inl f21, .inl f22, .inr 1000, .inr 1000, .inl e10.2.2.2.2.2.2.2.1]) ⟨fun _ => rfl, fun _ => rfl, fun _ => rfl, fun _ => rfl, trivial⟩ ⟨fun _ => rfl, fun _ => rfl, fun _ => rfl, fun (h : zv_is (.inr 1000)) => (Nat.lt_irrefl 1000 h).elim, fun (h : zv_is (.inr 1000)) => (Nat.lt_irrefl 1000 h).elim, fun _ => rfl, fun _ => rfl, fun _ => rfl, fun _ => rfl, fun _ => rfl, fun _ => rfl, fun _ => rfl, fun _ => rfl, fun _ => rfl, fun _ => rfl, fun _ => rfl, fun _ => rfl, fun _ => rfl, fun _ => rfl, fun _ => rfl, fun _ => rfl, fun _ => rfl, fun _ => rfl, fun (h : zv_is (.inr 1000)) => (Nat.lt_irrefl 1000 h).elim, fun (h : zv_is (.inr 1000)) => (Nat.lt_irrefl 1000 h).elim, fun _ => rfl, trivial⟩ ?_
          subst hw
          exact hret _ _ _ _ _ zd122_82 (by trivial) ⟨rfl, rfl, rfl⟩
      · exact Option.some.inj h
    · rw [if_pos hc3] at h
      refine zv_con hB zd122_19 rfl ?_
      have hw := Option.some.inj h
      subst hw
      exact hret _ _ _ _ _ zd122_20 (by trivial) ⟨rfl, rfl, rfl⟩
/-! Sky_copyFrom (LStarTales$Sky;)V -/
-- names: 0 Sky('arg', 0), 1 Sky('arg', 1), 2 (0, 24)(1, 1, 1), 3 (0, 24)(0, 1, 1), 4 (0, 24)(1, 1, 2), 5 (0, 24)(0, 1, 2), 6 (0, 24)(1, 1, 3), 7 (0, 24)(0, 1, 3), 8 (0, 24)(1, 1, 4), 9 (0, 24)(0, 1, 4), 10 (0, 24)(1, 1, 5), 11 (0, 24)(0, 1, 5)
-- fields: f0 = 1.told_, f1 = 0.told_, f2 = 1.hour_, f3 = 0.hour_, f4 = 1.night_, f5 = 0.night_, f6 = 1.clouds_, f7 = 0.clouds_, f8 = 1.sightColumns_, f9 = 0.sightColumns_, f10 = 1.sightRows_, f11 = 0.sightRows_, f12 = 1.chance_, f13 = 0.chance_; arrays: g0 = 2, g1 = 3, g2 = 4, g3 = 5, g4 = 6, g5 = 7, g6 = 8, g7 = 9, g8 = 10, g9 = 11; out: [('f', 1), ('f', 3), ('f', 5), ('f', 7), ('f', 9), ('f', 11), ('f', 13), ('g', 1), ('g', 3), ('g', 5), ('g', 7), ('g', 9)]
abbrev zy_Sky_copyFrom : zNL := (12, [(0, 1), (1, 1)], [(1, 1, 0, 0), (0, 1, 0, 1), (1, 1, 6, 2), (0, 1, 6, 3), (1, 1, 7, 4), (0, 1, 7, 5), (1, 1, 8, 6), (0, 1, 8, 7), (1, 1, 9, 8), (0, 1, 9, 9), (1, 1, 10, 10), (0, 1, 10, 11), (1, 1, 11, 12), (0, 1, 11, 13)], [(1, 1, 1, 2), (0, 1, 1, 3), (1, 1, 2, 4), (0, 1, 2, 5), (1, 1, 3, 6), (0, 1, 3, 7), (1, 1, 4, 8), (0, 1, 4, 9), (1, 1, 5, 10), (0, 1, 5, 11)], [(2, 0, 24, 0), (3, 0, 24, 1), (4, 0, 24, 2), (5, 0, 24, 3), (6, 0, 24, 4), (7, 0, 24, 5), (8, 0, 24, 6), (9, 0, 24, 7), (10, 0, 24, 8), (11, 0, 24, 9)])
theorem zyw_Sky_copyFrom : zv_wf zy_Sky_copyFrom = true := by decide +kernel
theorem zye_Sky_copyFrom : zv_ek2 zy_Sky_copyFrom = true := by decide +kernel
def zf_Sky_copyFrom (f0 : Int) (f1 : Int) (f2 : Int) (f3 : Int) (f4 : Int) (f5 : Int) (f6 : Int) (f7 : Int) (f8 : Int) (f9 : Int) (f10 : Int) (f11 : Int) (f12 : Int) (f13 : Int) (g0 : (Int → Int)) (g1 : (Int → Int)) (g2 : (Int → Int)) (g3 : (Int → Int)) (g4 : (Int → Int)) (g5 : (Int → Int)) (g6 : (Int → Int)) (g7 : (Int → Int)) (g8 : (Int → Int)) (g9 : (Int → Int)) : Option (Int × Int × Int × Int × Int × Int × Int × (Int → Int) × (Int → Int) × (Int → Int) × (Int → Int) × (Int → Int)) := some (f0, f2, f4, f6, f8, f10, f12, (zv_cpy g0 g1 24), (zv_cpy g2 g3 24), (zv_cpy g4 g5 24), (zv_cpy g6 g7 24), (zv_cpy g8 g9 24))
theorem zd125_0 : decode zxm125.2.1 0 = .ok (.aload_n 0, 1) := by decide +kernel
theorem zd125_1 : decode zxm125.2.1 1 = .ok (.aload_n 1, 1) := by decide +kernel
theorem zd125_2 : decode zxm125.2.1 2 = .ok (.getfield 9, 3) := by decide +kernel
theorem zd125_5 : decode zxm125.2.1 5 = .ok (.putfield 9, 3) := by decide +kernel
theorem zd125_8 : decode zxm125.2.1 8 = .ok (.aload_n 1, 1) := by decide +kernel
theorem zd125_9 : decode zxm125.2.1 9 = .ok (.getfield 15, 3) := by decide +kernel
theorem zd125_12 : decode zxm125.2.1 12 = .ok (.iconst 0, 1) := by decide +kernel
theorem zd125_13 : decode zxm125.2.1 13 = .ok (.aload_n 0, 1) := by decide +kernel
theorem zd125_14 : decode zxm125.2.1 14 = .ok (.getfield 15, 3) := by decide +kernel
theorem zd125_17 : decode zxm125.2.1 17 = .ok (.iconst 0, 1) := by decide +kernel
theorem zd125_18 : decode zxm125.2.1 18 = .ok (.bipush 24, 2) := by decide +kernel
theorem zd125_20 : decode zxm125.2.1 20 = .ok (.invokestatic 87, 3) := by decide +kernel
theorem zd125_23 : decode zxm125.2.1 23 = .ok (.aload_n 1, 1) := by decide +kernel
theorem zd125_24 : decode zxm125.2.1 24 = .ok (.getfield 19, 3) := by decide +kernel
theorem zd125_27 : decode zxm125.2.1 27 = .ok (.iconst 0, 1) := by decide +kernel
theorem zd125_28 : decode zxm125.2.1 28 = .ok (.aload_n 0, 1) := by decide +kernel
theorem zd125_29 : decode zxm125.2.1 29 = .ok (.getfield 19, 3) := by decide +kernel
theorem zd125_32 : decode zxm125.2.1 32 = .ok (.iconst 0, 1) := by decide +kernel
theorem zd125_33 : decode zxm125.2.1 33 = .ok (.bipush 24, 2) := by decide +kernel
theorem zd125_35 : decode zxm125.2.1 35 = .ok (.invokestatic 87, 3) := by decide +kernel
theorem zd125_38 : decode zxm125.2.1 38 = .ok (.aload_n 1, 1) := by decide +kernel
theorem zd125_39 : decode zxm125.2.1 39 = .ok (.getfield 22, 3) := by decide +kernel
theorem zd125_42 : decode zxm125.2.1 42 = .ok (.iconst 0, 1) := by decide +kernel
theorem zd125_43 : decode zxm125.2.1 43 = .ok (.aload_n 0, 1) := by decide +kernel
theorem zd125_44 : decode zxm125.2.1 44 = .ok (.getfield 22, 3) := by decide +kernel
theorem zd125_47 : decode zxm125.2.1 47 = .ok (.iconst 0, 1) := by decide +kernel
theorem zd125_48 : decode zxm125.2.1 48 = .ok (.bipush 24, 2) := by decide +kernel
theorem zd125_50 : decode zxm125.2.1 50 = .ok (.invokestatic 87, 3) := by decide +kernel
theorem zd125_53 : decode zxm125.2.1 53 = .ok (.aload_n 1, 1) := by decide +kernel
theorem zd125_54 : decode zxm125.2.1 54 = .ok (.getfield 25, 3) := by decide +kernel
theorem zd125_57 : decode zxm125.2.1 57 = .ok (.iconst 0, 1) := by decide +kernel
theorem zd125_58 : decode zxm125.2.1 58 = .ok (.aload_n 0, 1) := by decide +kernel
theorem zd125_59 : decode zxm125.2.1 59 = .ok (.getfield 25, 3) := by decide +kernel
theorem zd125_62 : decode zxm125.2.1 62 = .ok (.iconst 0, 1) := by decide +kernel
theorem zd125_63 : decode zxm125.2.1 63 = .ok (.bipush 24, 2) := by decide +kernel
theorem zd125_65 : decode zxm125.2.1 65 = .ok (.invokestatic 87, 3) := by decide +kernel
theorem zd125_68 : decode zxm125.2.1 68 = .ok (.aload_n 1, 1) := by decide +kernel
theorem zd125_69 : decode zxm125.2.1 69 = .ok (.getfield 28, 3) := by decide +kernel
theorem zd125_72 : decode zxm125.2.1 72 = .ok (.iconst 0, 1) := by decide +kernel
theorem zd125_73 : decode zxm125.2.1 73 = .ok (.aload_n 0, 1) := by decide +kernel
theorem zd125_74 : decode zxm125.2.1 74 = .ok (.getfield 28, 3) := by decide +kernel
theorem zd125_77 : decode zxm125.2.1 77 = .ok (.iconst 0, 1) := by decide +kernel
theorem zd125_78 : decode zxm125.2.1 78 = .ok (.bipush 24, 2) := by decide +kernel
theorem zd125_80 : decode zxm125.2.1 80 = .ok (.invokestatic 87, 3) := by decide +kernel
theorem zd125_83 : decode zxm125.2.1 83 = .ok (.aload_n 0, 1) := by decide +kernel
theorem zd125_84 : decode zxm125.2.1 84 = .ok (.aload_n 1, 1) := by decide +kernel
theorem zd125_85 : decode zxm125.2.1 85 = .ok (.getfield 31, 3) := by decide +kernel
theorem zd125_88 : decode zxm125.2.1 88 = .ok (.putfield 31, 3) := by decide +kernel
theorem zd125_91 : decode zxm125.2.1 91 = .ok (.aload_n 0, 1) := by decide +kernel
theorem zd125_92 : decode zxm125.2.1 92 = .ok (.aload_n 1, 1) := by decide +kernel
theorem zd125_93 : decode zxm125.2.1 93 = .ok (.getfield 34, 3) := by decide +kernel
theorem zd125_96 : decode zxm125.2.1 96 = .ok (.putfield 34, 3) := by decide +kernel
theorem zd125_99 : decode zxm125.2.1 99 = .ok (.aload_n 0, 1) := by decide +kernel
theorem zd125_100 : decode zxm125.2.1 100 = .ok (.aload_n 1, 1) := by decide +kernel
theorem zd125_101 : decode zxm125.2.1 101 = .ok (.getfield 37, 3) := by decide +kernel
theorem zd125_104 : decode zxm125.2.1 104 = .ok (.putfield 37, 3) := by decide +kernel
theorem zd125_107 : decode zxm125.2.1 107 = .ok (.aload_n 0, 1) := by decide +kernel
theorem zd125_108 : decode zxm125.2.1 108 = .ok (.aload_n 1, 1) := by decide +kernel
theorem zd125_109 : decode zxm125.2.1 109 = .ok (.getfield 40, 3) := by decide +kernel
theorem zd125_112 : decode zxm125.2.1 112 = .ok (.putfield 40, 3) := by decide +kernel
theorem zd125_115 : decode zxm125.2.1 115 = .ok (.aload_n 0, 1) := by decide +kernel
theorem zd125_116 : decode zxm125.2.1 116 = .ok (.aload_n 1, 1) := by decide +kernel
theorem zd125_117 : decode zxm125.2.1 117 = .ok (.getfield 43, 3) := by decide +kernel
theorem zd125_120 : decode zxm125.2.1 120 = .ok (.putfield 43, 3) := by decide +kernel
theorem zd125_123 : decode zxm125.2.1 123 = .ok (.aload_n 0, 1) := by decide +kernel
theorem zd125_124 : decode zxm125.2.1 124 = .ok (.aload_n 1, 1) := by decide +kernel
theorem zd125_125 : decode zxm125.2.1 125 = .ok (.getfield 46, 3) := by decide +kernel
theorem zd125_128 : decode zxm125.2.1 128 = .ok (.putfield 46, 3) := by decide +kernel
theorem zd125_131 : decode zxm125.2.1 131 = .ok (.return_, 1) := by decide +kernel
theorem zt_Sky_copyFrom {f0 : Int} {f1 : Int} {f2 : Int} {f3 : Int} {f4 : Int} {f5 : Int} {f6 : Int} {f7 : Int} {f8 : Int} {f9 : Int} {f10 : Int} {f11 : Int} {f12 : Int} {f13 : Int} {g0 : (Int → Int)} {g1 : (Int → Int)} {g2 : (Int → Int)} {g3 : (Int → Int)} {g4 : (Int → Int)} {g5 : (Int → Int)} {g6 : (Int → Int)} {g7 : (Int → Int)} {g8 : (Int → Int)} {g9 : (Int → Int)} {o : Int × Int × Int × Int × Int × Int × Int × (Int → Int) × (Int → Int) × (Int → Int) × (Int → Int) × (Int → Int)} (h : zf_Sky_copyFrom f0 f1 f2 f3 f4 f5 f6 f7 f8 f9 f10 f11 f12 f13 g0 g1 g2 g3 g4 g5 g6 g7 g8 g9 = some o) : zv_Fn z_TB z_cl z_KX zy_Sky_copyFrom zxm125 (1, 60) [.inr 0, .inr 1] [.inl f0, .inl f1, .inl f2, .inl f3, .inl f4, .inl f5, .inl f6, .inl f7, .inl f8, .inl f9, .inl f10, .inl f11, .inl f12, .inl f13] [g0, g1, g2, g3, g4, g5, g6, g7, g8, g9] none [.inl f0, .inl o.1, .inl f2, .inl o.2.1, .inl f4, .inl o.2.2.1, .inl f6, .inl o.2.2.2.1, .inl f8, .inl o.2.2.2.2.1, .inl f10, .inl o.2.2.2.2.2.1, .inl f12, .inl o.2.2.2.2.2.2.1] [g0, o.2.2.2.2.2.2.2.1, g2, o.2.2.2.2.2.2.2.2.1, g4, o.2.2.2.2.2.2.2.2.2.1, g6, o.2.2.2.2.2.2.2.2.2.2.1, g8, o.2.2.2.2.2.2.2.2.2.2.2] := zv_meth (K := (z_KF8, z_KC8, z_KL8, z_KT8, [], [], [], none)) (FT := z_FT) (MT := z_MT) (n := 2) zxp125 (z_ks8 _ (fun _ h => List.mem_cons_of_mem _ h) _ _ _ _ (fun j r h _ => by cases h)) (fun _ _ => zs_KX_p) zyw_Sky_copyFrom (fun va F G h => by obtain ⟨rfl, _⟩ := h; rfl) (fun va F G h => by obtain ⟨rfl, _⟩ := h; rfl) rfl fun good va F G hB hret hvret hP => by
  obtain ⟨rfl, rfl, rfl⟩ := hP
  unfold zf_Sky_copyFrom at h
  refine zv_ald hB zd125_0 rfl rfl rfl ?_
  refine zv_ald hB zd125_1 rfl rfl rfl ?_
  refine zv_getf hB zd125_2 rfl rfl (fun _ _ => ?_)
  refine zv_putf hB zd125_5 rfl rfl (fun h => by cases h) rfl ?_
  refine zv_ald hB zd125_8 rfl rfl rfl ?_
  refine zv_getr hB zd125_9 rfl ?_
  refine zv_con hB zd125_12 rfl ?_
  refine zv_ald hB zd125_13 rfl rfl rfl ?_
  refine zv_getr hB zd125_14 rfl ?_
  refine zv_con hB zd125_17 rfl ?_
  refine zv_con hB zd125_18 rfl ?_
  refine zv_acp hB zd125_20 (List.mem_of_getElem? (i := 10) rfl) rfl rfl rfl rfl (by decide) (by decide) (by decide) ⟨by decide, by decide⟩ ?_
  refine zv_ald hB zd125_23 rfl rfl rfl ?_
  refine zv_getr hB zd125_24 rfl ?_
  refine zv_con hB zd125_27 rfl ?_
  refine zv_ald hB zd125_28 rfl rfl rfl ?_
  refine zv_getr hB zd125_29 rfl ?_
  refine zv_con hB zd125_32 rfl ?_
  refine zv_con hB zd125_33 rfl ?_
  refine zv_acp hB zd125_35 (List.mem_of_getElem? (i := 10) rfl) rfl rfl rfl rfl (by decide) (by decide) (by decide) ⟨by decide, by decide⟩ ?_
  refine zv_ald hB zd125_38 rfl rfl rfl ?_
  refine zv_getr hB zd125_39 rfl ?_
  refine zv_con hB zd125_42 rfl ?_
  refine zv_ald hB zd125_43 rfl rfl rfl ?_
  refine zv_getr hB zd125_44 rfl ?_
  refine zv_con hB zd125_47 rfl ?_
  refine zv_con hB zd125_48 rfl ?_
  refine zv_acp hB zd125_50 (List.mem_of_getElem? (i := 10) rfl) rfl rfl rfl rfl (by decide) (by decide) (by decide) ⟨by decide, by decide⟩ ?_
  refine zv_ald hB zd125_53 rfl rfl rfl ?_
  refine zv_getr hB zd125_54 rfl ?_
  refine zv_con hB zd125_57 rfl ?_
  refine zv_ald hB zd125_58 rfl rfl rfl ?_
  refine zv_getr hB zd125_59 rfl ?_
  refine zv_con hB zd125_62 rfl ?_
  refine zv_con hB zd125_63 rfl ?_
  refine zv_acp hB zd125_65 (List.mem_of_getElem? (i := 10) rfl) rfl rfl rfl rfl (by decide) (by decide) (by decide) ⟨by decide, by decide⟩ ?_
  refine zv_ald hB zd125_68 rfl rfl rfl ?_
  refine zv_getr hB zd125_69 rfl ?_
  refine zv_con hB zd125_72 rfl ?_
  refine zv_ald hB zd125_73 rfl rfl rfl ?_
  refine zv_getr hB zd125_74 rfl ?_
  refine zv_con hB zd125_77 rfl ?_
  refine zv_con hB zd125_78 rfl ?_
  refine zv_acp hB zd125_80 (List.mem_of_getElem? (i := 10) rfl) rfl rfl rfl rfl (by decide) (by decide) (by decide) ⟨by decide, by decide⟩ ?_
  refine zv_ald hB zd125_83 rfl rfl rfl ?_
  refine zv_ald hB zd125_84 rfl rfl rfl ?_
  refine zv_getf hB zd125_85 rfl rfl (fun _ _ => ?_)
  refine zv_putf hB zd125_88 rfl rfl (fun h => by cases h) rfl ?_
  refine zv_ald hB zd125_91 rfl rfl rfl ?_
  refine zv_ald hB zd125_92 rfl rfl rfl ?_
  refine zv_getf hB zd125_93 rfl rfl (fun _ _ => ?_)
  refine zv_putf hB zd125_96 rfl rfl (fun h => by cases h) rfl ?_
  refine zv_ald hB zd125_99 rfl rfl rfl ?_
  refine zv_ald hB zd125_100 rfl rfl rfl ?_
  refine zv_getf hB zd125_101 rfl rfl (fun _ _ => ?_)
  refine zv_putf hB zd125_104 rfl rfl (fun h => by cases h) rfl ?_
  refine zv_ald hB zd125_107 rfl rfl rfl ?_
  refine zv_ald hB zd125_108 rfl rfl rfl ?_
  refine zv_getf hB zd125_109 rfl rfl (fun _ _ => ?_)
  refine zv_putf hB zd125_112 rfl rfl (fun h => by cases h) rfl ?_
  refine zv_ald hB zd125_115 rfl rfl rfl ?_
  refine zv_ald hB zd125_116 rfl rfl rfl ?_
  refine zv_getf hB zd125_117 rfl rfl (fun _ _ => ?_)
  refine zv_putf hB zd125_120 rfl rfl (fun h => by cases h) rfl ?_
  refine zv_ald hB zd125_123 rfl rfl rfl ?_
  refine zv_ald hB zd125_124 rfl rfl rfl ?_
  refine zv_getf hB zd125_125 rfl rfl (fun _ _ => ?_)
  refine zv_putf hB zd125_128 rfl rfl (fun h => by cases h) rfl ?_
  have hw := Option.some.inj h
  subst hw
  exact hvret _ _ _ _ zd125_131 trivial ⟨rfl, rfl, rfl⟩
