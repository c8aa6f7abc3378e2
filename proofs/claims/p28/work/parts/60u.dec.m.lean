/-! 60u.dec, 60v.dec, 60w.dec, 60x.dec, 60y.dec -/
section
/-! Methods as functions, and that they do what these do. -/
/-! X_where (I)I -/
-- names: 0 StarTales('arg', 0), 1 Tale(0, 0, 10), 2 View(0, 0, 12), 3 Sky(0, 0, 0), 4 Law(0, 0, 7), 5 (0, 24)(2, 7, 8), 6 (0, 13)(4, 4, 12), 7 (0, 24)(3, 1, 1), 8 (0, 24)(3, 1, 2), 9 (0, 24)(3, 1, 3), 10 (0, 14)(4, 4, 3), 11 (0, 14)(4, 4, 5), 12 (0, 14)(4, 4, 6), 13 (0, 200)(4, 4, 0), 14 (0, 40)(4, 4, 13), 15 (0, 200)(4, 4, 1), 16 (0, 24)(2, 7, 5), 17 (0, 24)(2, 7, 9), 18 Matcher(0, 0, 14), 19 (0, 72)(18, 8, 0), 20 (0, 8)(1, 6, 2), 21 (0, 24)(18, 8, 1), 22 (0, 8)(18, 8, 2)
-- fields: f0 = 0.telling_, f1 = 1.lines_, f2 = 0.ruling_, f3 = 2.sky_, f4 = 2.law_, f5 = 2.starsAsked_, f6 = 2.x_, f7 = 2.y_, f8 = 3.hour_, f9 = 3.night_, f10 = 2.shown_, f11 = 3.told_, f12 = 3.sightColumns_, f13 = 3.sightRows_, f14 = 3.clouds_, f15 = 4.tellsSeen_, f16 = 2.starsHold_, f17 = 4.clauses_, f18 = 4.answer_, f19 = 4.seenByPlace_, f20 = 1.names_, f21 = 4.tellsLines_, f22 = 4.linesByPlace_, f23 = 18.tale_, f24 = 18.joined_, f25 = 18.deadEnds_; arrays: g0 = 5, g1 = 6, g2 = 7, g3 = 8, g4 = 9, g5 = 10, g6 = 11, g7 = 12, g8 = 13, g9 = 14, g10 = 15, g11 = 16, g12 = 17, g13 = 19, g14 = 20, g15 = 21, g16 = 22; out: [('ret', None), ('f', 5), ('f', 6), ('f', 7), ('f', 10), ('f', 16), ('f', 18), ('f', 25), ('g', 0), ('g', 1), ('g', 9), ('g', 11), ('g', 12), ('g', 13), ('g', 15), ('g', 16)]
abbrev zy_X_where : zNL := (23, [(0, 0), (1, 6), (2, 7), (3, 1), (4, 4), (18, 8)], [(0, 0, 10, 0), (1, 6, 0, 1), (0, 0, 7, 2), (2, 7, 0, 3), (2, 7, 1, 4), (2, 7, 6, 5), (2, 7, 2, 6), (2, 7, 3, 7), (3, 1, 6, 8), (3, 1, 7, 9), (2, 7, 4, 10), (3, 1, 0, 11), (3, 1, 9, 12), (3, 1, 10, 13), (3, 1, 8, 14), (4, 4, 8, 15), (2, 7, 7, 16), (4, 4, 7, 17), (4, 4, 14, 18), (4, 4, 10, 19), (1, 6, 1, 20), (4, 4, 9, 21), (4, 4, 11, 22), (18, 8, 3, 23), (18, 8, 4, 24), (18, 8, 6, 25)], [(0, 0, 12, 2), (0, 0, 0, 3), (2, 7, 8, 5), (4, 4, 12, 6), (3, 1, 1, 7), (3, 1, 2, 8), (3, 1, 3, 9), (4, 4, 3, 10), (4, 4, 5, 11), (4, 4, 6, 12), (4, 4, 0, 13), (4, 4, 13, 14), (4, 4, 1, 15), (2, 7, 5, 16), (2, 7, 9, 17), (0, 0, 14, 18), (18, 8, 0, 19), (1, 6, 2, 20), (18, 8, 1, 21), (18, 8, 2, 22)], [(5, 0, 24, 0), (6, 0, 13, 1), (7, 0, 24, 2), (8, 0, 24, 3), (9, 0, 24, 4), (10, 0, 14, 5), (11, 0, 14, 6), (12, 0, 14, 7), (13, 0, 200, 8), (14, 0, 40, 9), (15, 0, 200, 10), (16, 0, 24, 11), (17, 0, 24, 12), (19, 0, 72, 13), (20, 0, 8, 14), (21, 0, 24, 15), (22, 0, 8, 16)])
theorem zyw_X_where : zv_wf zy_X_where = true := by decide +kernel
theorem zye_X_where : zv_ek2 zy_X_where = true := by decide +kernel
def zf_X_where_l0_b (x1 : Int) (f8 : Int) (f9 : Int) (f11 : Int) (f12 : Int) (f13 : Int) (f14 : Int) (f15 : Int) (f17 : Int) (f19 : Int) (f20 : Int) (f21 : Int) (f22 : Int) (g2 : (Int → Int)) (g3 : (Int → Int)) (g4 : (Int → Int)) (g5 : (Int → Int)) (g6 : (Int → Int)) (g7 : (Int → Int)) (g8 : (Int → Int)) (g10 : (Int → Int)) (g14 : (Int → Int)) (rec : Int → Int → Int → Int → Int → Int → Int → Int → Int → (Int → Int) → (Int → Int) → (Int → Int) → (Int → Int) → (Int → Int) → (Int → Int) → (Int → Int) → (Int → Int) → Option (((Int × Int × Int × Int × Int × Int × Int × Int × (Int → Int) × (Int → Int) × (Int → Int) × (Int → Int) × (Int → Int) × (Int → Int) × (Int → Int) × (Int → Int)) ⊕ (Int × Int × Int × Int × Int × Int × Int × Int × (Int → Int) × (Int → Int) × (Int → Int) × (Int → Int) × (Int → Int) × (Int → Int) × (Int → Int) × (Int → Int))))) (x2 : Int) (x3 : Int) (f5 : Int) (f6 : Int) (f7 : Int) (f10 : Int) (f16 : Int) (f18 : Int) (f25 : Int) (g0 : (Int → Int)) (g1 : (Int → Int)) (g9 : (Int → Int)) (g11 : (Int → Int)) (g12 : (Int → Int)) (g13 : (Int → Int)) (g15 : (Int → Int)) (g16 : (Int → Int)) : Option (((Int × Int × Int × Int × Int × Int × Int × Int × (Int → Int) × (Int → Int) × (Int → Int) × (Int → Int) × (Int → Int) × (Int → Int) × (Int → Int) × (Int → Int)) ⊕ (Int × Int × Int × Int × Int × Int × Int × Int × (Int → Int) × (Int → Int) × (Int → Int) × (Int → Int) × (Int → Int) × (Int → Int) × (Int → Int) × (Int → Int)))) := if x3 < 288 then ((zf_X_canBeTold x3 f6 f7 f8 f9 f10 f11 f12 f13 f14 f15 f5 f16 f17 f18 f19 f20 f21 f22 f25 g1 g2 g3 g4 g5 g6 g7 g8 g9 g10 g11 g0 g12 g13 g14 g15 g16).bind fun r6 => (if r6.1 = 0 then (rec x2 (zi_w (x3 + 1)) r6.2.2.2.2.1 r6.2.1 r6.2.2.1 r6.2.2.2.1 r6.2.2.2.2.2.1 r6.2.2.2.2.2.2.1 r6.2.2.2.2.2.2.2.1 r6.2.2.2.2.2.2.2.2.2.2.2.1 r6.2.2.2.2.2.2.2.2.1 r6.2.2.2.2.2.2.2.2.2.1 r6.2.2.2.2.2.2.2.2.2.2.1 r6.2.2.2.2.2.2.2.2.2.2.2.2.1 r6.2.2.2.2.2.2.2.2.2.2.2.2.2.1 r6.2.2.2.2.2.2.2.2.2.2.2.2.2.2.1 r6.2.2.2.2.2.2.2.2.2.2.2.2.2.2.2) else (if x1 = 1 then (some (.inr (x3, r6.2.2.2.2.1, r6.2.1, r6.2.2.1, r6.2.2.2.1, r6.2.2.2.2.2.1, r6.2.2.2.2.2.2.1, r6.2.2.2.2.2.2.2.1, r6.2.2.2.2.2.2.2.2.2.2.2.1, r6.2.2.2.2.2.2.2.2.1, r6.2.2.2.2.2.2.2.2.2.1, r6.2.2.2.2.2.2.2.2.2.2.1, r6.2.2.2.2.2.2.2.2.2.2.2.2.1, r6.2.2.2.2.2.2.2.2.2.2.2.2.2.1, r6.2.2.2.2.2.2.2.2.2.2.2.2.2.2.1, r6.2.2.2.2.2.2.2.2.2.2.2.2.2.2.2))) else (rec (zi_w (x2 + 1)) (zi_w (x3 + 1)) r6.2.2.2.2.1 r6.2.1 r6.2.2.1 r6.2.2.2.1 r6.2.2.2.2.2.1 r6.2.2.2.2.2.2.1 r6.2.2.2.2.2.2.2.1 r6.2.2.2.2.2.2.2.2.2.2.2.1 r6.2.2.2.2.2.2.2.2.1 r6.2.2.2.2.2.2.2.2.2.1 r6.2.2.2.2.2.2.2.2.2.2.1 r6.2.2.2.2.2.2.2.2.2.2.2.2.1 r6.2.2.2.2.2.2.2.2.2.2.2.2.2.1 r6.2.2.2.2.2.2.2.2.2.2.2.2.2.2.1 r6.2.2.2.2.2.2.2.2.2.2.2.2.2.2.2)))) else (some (.inl (x2, f5, f6, f7, f10, f16, f18, f25, g0, g1, g9, g11, g12, g13, g15, g16)))
def zf_X_where_l0 (x1 : Int) (f8 : Int) (f9 : Int) (f11 : Int) (f12 : Int) (f13 : Int) (f14 : Int) (f15 : Int) (f17 : Int) (f19 : Int) (f20 : Int) (f21 : Int) (f22 : Int) (g2 : (Int → Int)) (g3 : (Int → Int)) (g4 : (Int → Int)) (g5 : (Int → Int)) (g6 : (Int → Int)) (g7 : (Int → Int)) (g8 : (Int → Int)) (g10 : (Int → Int)) (g14 : (Int → Int)) : Nat → Int → Int → Int → Int → Int → Int → Int → Int → Int → (Int → Int) → (Int → Int) → (Int → Int) → (Int → Int) → (Int → Int) → (Int → Int) → (Int → Int) → (Int → Int) → Option (((Int × Int × Int × Int × Int × Int × Int × Int × (Int → Int) × (Int → Int) × (Int → Int) × (Int → Int) × (Int → Int) × (Int → Int) × (Int → Int) × (Int → Int)) ⊕ (Int × Int × Int × Int × Int × Int × Int × Int × (Int → Int) × (Int → Int) × (Int → Int) × (Int → Int) × (Int → Int) × (Int → Int) × (Int → Int) × (Int → Int))))
  | 0, _, _, _, _, _, _, _, _, _, _, _, _, _, _, _, _, _ => none
  | n + 1, x2, x3, f5, f6, f7, f10, f16, f18, f25, g0, g1, g9, g11, g12, g13, g15, g16 => zf_X_where_l0_b x1 f8 f9 f11 f12 f13 f14 f15 f17 f19 f20 f21 f22 g2 g3 g4 g5 g6 g7 g8 g10 g14 (zf_X_where_l0 x1 f8 f9 f11 f12 f13 f14 f15 f17 f19 f20 f21 f22 g2 g3 g4 g5 g6 g7 g8 g10 g14 n) x2 x3 f5 f6 f7 f10 f16 f18 f25 g0 g1 g9 g11 g12 g13 g15 g16
def zf_X_where (x1 : Int) (f1 : Int) (f5 : Int) (f6 : Int) (f7 : Int) (f8 : Int) (f9 : Int) (f10 : Int) (f11 : Int) (f12 : Int) (f13 : Int) (f14 : Int) (f15 : Int) (f16 : Int) (f17 : Int) (f18 : Int) (f19 : Int) (f20 : Int) (f21 : Int) (f22 : Int) (f25 : Int) (g0 : (Int → Int)) (g1 : (Int → Int)) (g2 : (Int → Int)) (g3 : (Int → Int)) (g4 : (Int → Int)) (g5 : (Int → Int)) (g6 : (Int → Int)) (g7 : (Int → Int)) (g8 : (Int → Int)) (g9 : (Int → Int)) (g10 : (Int → Int)) (g11 : (Int → Int)) (g12 : (Int → Int)) (g13 : (Int → Int)) (g14 : (Int → Int)) (g15 : (Int → Int)) (g16 : (Int → Int)) : Option (Int × Int × Int × Int × Int × Int × Int × Int × (Int → Int) × (Int → Int) × (Int → Int) × (Int → Int) × (Int → Int) × (Int → Int) × (Int → Int) × (Int → Int)) := (zf_X_isWithin x1 0 1).bind fun r1 => (if r1 = 0 then (some ((-1), f5, f6, f7, f10, f16, f18, f25, g0, g1, g9, g11, g12, g13, g15, g16)) else (if f1 = 0 then (some ((-1), f5, f6, f7, f10, f16, f18, f25, g0, g1, g9, g11, g12, g13, g15, g16)) else ((zf_View_open f5 g0).bind fun r4 => ((zf_X_where_l0 x1 f8 f9 f11 f12 f13 f14 f15 f17 f19 f20 f21 f22 g2 g3 g4 g5 g6 g7 g8 g10 g14 zi_fu 0 0 r4.1 f6 f7 f10 f16 f18 f25 r4.2 g1 g9 g11 g12 g13 g15 g16).bind fun q9 => Sum.elim (fun e10 => (if x1 = 1 then (some ((-2), e10.2.1, e10.2.2.1, e10.2.2.2.1, e10.2.2.2.2.1, e10.2.2.2.2.2.1, e10.2.2.2.2.2.2.1, e10.2.2.2.2.2.2.2.1, e10.2.2.2.2.2.2.2.2.1, e10.2.2.2.2.2.2.2.2.2.1, e10.2.2.2.2.2.2.2.2.2.2.1, e10.2.2.2.2.2.2.2.2.2.2.2.1, e10.2.2.2.2.2.2.2.2.2.2.2.2.1, e10.2.2.2.2.2.2.2.2.2.2.2.2.2.1, e10.2.2.2.2.2.2.2.2.2.2.2.2.2.2.1, e10.2.2.2.2.2.2.2.2.2.2.2.2.2.2.2)) else (some (e10.1, e10.2.1, e10.2.2.1, e10.2.2.2.1, e10.2.2.2.2.1, e10.2.2.2.2.2.1, e10.2.2.2.2.2.2.1, e10.2.2.2.2.2.2.2.1, e10.2.2.2.2.2.2.2.2.1, e10.2.2.2.2.2.2.2.2.2.1, e10.2.2.2.2.2.2.2.2.2.2.1, e10.2.2.2.2.2.2.2.2.2.2.2.1, e10.2.2.2.2.2.2.2.2.2.2.2.2.1, e10.2.2.2.2.2.2.2.2.2.2.2.2.2.1, e10.2.2.2.2.2.2.2.2.2.2.2.2.2.2.1, e10.2.2.2.2.2.2.2.2.2.2.2.2.2.2.2)))) (fun w12 => some w12) q9))))
theorem zd122_0 : decode zxm122.2.1 0 = .ok (.iload_n 1, 1) := by decide +kernel
theorem zd122_1 : decode zxm122.2.1 1 = .ok (.iconst 0, 1) := by decide +kernel
theorem zd122_2 : decode zxm122.2.1 2 = .ok (.iconst 1, 1) := by decide +kernel
theorem zd122_3 : decode zxm122.2.1 3 = .ok (.invokestatic 126, 3) := by decide +kernel
theorem zd122_6 : decode zxm122.2.1 6 = .ok (.ifCond .eq 13, 3) := by decide +kernel
theorem zd122_9 : decode zxm122.2.1 9 = .ok (.aload_n 0, 1) := by decide +kernel
theorem zd122_10 : decode zxm122.2.1 10 = .ok (.getfield 69, 3) := by decide +kernel
theorem zd122_13 : decode zxm122.2.1 13 = .ok (.getfield 253, 3) := by decide +kernel
theorem zd122_16 : decode zxm122.2.1 16 = .ok (.ifCond .ne 5, 3) := by decide +kernel
theorem zd122_19 : decode zxm122.2.1 19 = .ok (.iconst (-1), 1) := by decide +kernel
theorem zd122_20 : decode zxm122.2.1 20 = .ok (.ireturn, 1) := by decide +kernel
theorem zd122_21 : decode zxm122.2.1 21 = .ok (.aload_n 0, 1) := by decide +kernel
theorem zd122_22 : decode zxm122.2.1 22 = .ok (.getfield 81, 3) := by decide +kernel
theorem zd122_25 : decode zxm122.2.1 25 = .ok (.aload_n 0, 1) := by decide +kernel
theorem zd122_26 : decode zxm122.2.1 26 = .ok (.getfield 10, 3) := by decide +kernel
theorem zd122_29 : decode zxm122.2.1 29 = .ok (.aload_n 0, 1) := by decide +kernel
theorem zd122_30 : decode zxm122.2.1 30 = .ok (.getfield 46, 3) := by decide +kernel
theorem zd122_33 : decode zxm122.2.1 33 = .ok (.invokevirtual 211, 3) := by decide +kernel
theorem zd122_36 : decode zxm122.2.1 36 = .ok (.iconst 0, 1) := by decide +kernel
theorem zd122_37 : decode zxm122.2.1 37 = .ok (.istore_n 2, 1) := by decide +kernel
theorem zd122_38 : decode zxm122.2.1 38 = .ok (.iconst 0, 1) := by decide +kernel
theorem zd122_39 : decode zxm122.2.1 39 = .ok (.istore_n 3, 1) := by decide +kernel
theorem zd122_40 : decode zxm122.2.1 40 = .ok (.iload_n 3, 1) := by decide +kernel
theorem zd122_41 : decode zxm122.2.1 41 = .ok (.sipush 288, 3) := by decide +kernel
theorem zd122_44 : decode zxm122.2.1 44 = .ok (.if_icmp .ge 27, 3) := by decide +kernel
theorem zd122_47 : decode zxm122.2.1 47 = .ok (.aload_n 0, 1) := by decide +kernel
theorem zd122_48 : decode zxm122.2.1 48 = .ok (.iload_n 3, 1) := by decide +kernel
theorem zd122_49 : decode zxm122.2.1 49 = .ok (.invokevirtual 270, 3) := by decide +kernel
theorem zd122_52 : decode zxm122.2.1 52 = .ok (.ifCond .eq 13, 3) := by decide +kernel
theorem zd122_55 : decode zxm122.2.1 55 = .ok (.iload_n 1, 1) := by decide +kernel
theorem zd122_56 : decode zxm122.2.1 56 = .ok (.iconst 1, 1) := by decide +kernel
theorem zd122_57 : decode zxm122.2.1 57 = .ok (.if_icmp .ne 5, 3) := by decide +kernel
theorem zd122_60 : decode zxm122.2.1 60 = .ok (.iload_n 3, 1) := by decide +kernel
theorem zd122_61 : decode zxm122.2.1 61 = .ok (.ireturn, 1) := by decide +kernel
theorem zd122_62 : decode zxm122.2.1 62 = .ok (.iinc 2 1, 3) := by decide +kernel
theorem zd122_65 : decode zxm122.2.1 65 = .ok (.iinc 3 1, 3) := by decide +kernel
theorem zd122_68 : decode zxm122.2.1 68 = .ok (.goto (-28), 3) := by decide +kernel
theorem zd122_71 : decode zxm122.2.1 71 = .ok (.iload_n 1, 1) := by decide +kernel
theorem zd122_72 : decode zxm122.2.1 72 = .ok (.iconst 1, 1) := by decide +kernel
theorem zd122_73 : decode zxm122.2.1 73 = .ok (.if_icmp .ne 8, 3) := by decide +kernel
theorem zd122_76 : decode zxm122.2.1 76 = .ok (.bipush (-2), 2) := by decide +kernel
theorem zd122_78 : decode zxm122.2.1 78 = .ok (.goto 4, 3) := by decide +kernel
theorem zd122_81 : decode zxm122.2.1 81 = .ok (.iload_n 2, 1) := by decide +kernel
theorem zd122_82 : decode zxm122.2.1 82 = .ok (.ireturn, 1) := by decide +kernel
theorem zt_X_where {x1 : Int} {f1 : Int} {f5 : Int} {f6 : Int} {f7 : Int} {f8 : Int} {f9 : Int} {f10 : Int} {f11 : Int} {f12 : Int} {f13 : Int} {f14 : Int} {f15 : Int} {f16 : Int} {f17 : Int} {f18 : Int} {f19 : Int} {f20 : Int} {f21 : Int} {f22 : Int} {f25 : Int} {g0 : (Int → Int)} {g1 : (Int → Int)} {g2 : (Int → Int)} {g3 : (Int → Int)} {g4 : (Int → Int)} {g5 : (Int → Int)} {g6 : (Int → Int)} {g7 : (Int → Int)} {g8 : (Int → Int)} {g9 : (Int → Int)} {g10 : (Int → Int)} {g11 : (Int → Int)} {g12 : (Int → Int)} {g13 : (Int → Int)} {g14 : (Int → Int)} {g15 : (Int → Int)} {g16 : (Int → Int)} {o : Int × Int × Int × Int × Int × Int × Int × Int × (Int → Int) × (Int → Int) × (Int → Int) × (Int → Int) × (Int → Int) × (Int → Int) × (Int → Int) × (Int → Int)} (h : zf_X_where x1 f1 f5 f6 f7 f8 f9 f10 f11 f12 f13 f14 f15 f16 f17 f18 f19 f20 f21 f22 f25 g0 g1 g2 g3 g4 g5 g6 g7 g8 g9 g10 g11 g12 g13 g14 g15 g16 = some o) : zv_Fn z_TB z_cl z_KX zy_X_where zxm122 (14, 840) [.inr 0, .inl x1] [.inr 1, .inl f1, .inr 4, .inr 1000, .inr 1000, .inl f5, .inl f6, .inl f7, .inl f8, .inl f9, .inl f10, .inl f11, .inl f12, .inl f13, .inl f14, .inl f15, .inl f16, .inl f17, .inl f18, .inl f19, .inl f20, .inl f21, .inl f22, .inr 1000, .inr 1000, .inl f25] [g0, g1, g2, g3, g4, g5, g6, g7, g8, g9, g10, g11, g12, g13, g14, g15, g16] (some o.1) [.inr 1, .inl f1, .inr 4, .inr 1000, .inr 1000, .inl o.2.1, .inl o.2.2.1, .inl o.2.2.2.1, .inl f8, .inl f9, .inl o.2.2.2.2.1, .inl f11, .inl f12, .inl f13, .inl f14, .inl f15, .inl o.2.2.2.2.2.1, .inl f17, .inl o.2.2.2.2.2.2.1, .inl f19, .inl f20, .inl f21, .inl f22, .inr 1000, .inr 1000, .inl o.2.2.2.2.2.2.2.1] [o.2.2.2.2.2.2.2.2.1, o.2.2.2.2.2.2.2.2.2.1, g2, g3, g4, g5, g6, g7, g8, o.2.2.2.2.2.2.2.2.2.2.1, g10, o.2.2.2.2.2.2.2.2.2.2.2.1, o.2.2.2.2.2.2.2.2.2.2.2.2.1, o.2.2.2.2.2.2.2.2.2.2.2.2.2.1, g14, o.2.2.2.2.2.2.2.2.2.2.2.2.2.2.1, o.2.2.2.2.2.2.2.2.2.2.2.2.2.2.2] := zv_meth (K := (z_KF0, z_KC0, z_KL0, z_KT0, [], [], [], none)) (FT := z_FT) (MT := z_MT) (n := 2) zxp122 (z_ks0 _ (fun _ h => List.mem_cons_of_mem _ h) _ _ _ _ (fun j r h _ => by cases h)) (fun _ _ => zs_KX_p) zyw_X_where (fun va F G h => by obtain ⟨rfl, _⟩ := h; rfl) (fun va F G h => by obtain ⟨rfl, _⟩ := h; rfl) rfl fun good va F G hB hret hvret hP => by
  obtain ⟨rfl, rfl, rfl⟩ := hP
  have l0 : ∀ (n : Nat) (x1 : Int) (x2 : Int) (x3 : Int) (f5 : Int) (f6 : Int) (f7 : Int) (f10 : Int) (f16 : Int) (f18 : Int) (f25 : Int) (g0 : (Int → Int)) (g1 : (Int → Int)) (g9 : (Int → Int)) (g11 : (Int → Int)) (g12 : (Int → Int)) (g13 : (Int → Int)) (g15 : (Int → Int)) (g16 : (Int → Int)) (q : ((Int × Int × Int × Int × Int × Int × Int × Int × (Int → Int) × (Int → Int) × (Int → Int) × (Int → Int) × (Int → Int) × (Int → Int) × (Int → Int) × (Int → Int)) ⊕ (Int × Int × Int × Int × Int × Int × Int × Int × (Int → Int) × (Int → Int) × (Int → Int) × (Int → Int) × (Int → Int) × (Int → Int) × (Int → Int) × (Int → Int)))), zf_X_where_l0 x1 f8 f9 f11 f12 f13 f14 f15 f17 f19 f20 f21 f22 g2 g3 g4 g5 g6 g7 g8 g10 g14 n x2 x3 f5 f6 f7 f10 f16 f18 f25 g0 g1 g9 g11 g12 g13 g15 g16 = some q → (Sum.elim (fun e : Int × Int × Int × Int × Int × Int × Int × Int × (Int → Int) × (Int → Int) × (Int → Int) × (Int → Int) × (Int → Int) × (Int → Int) × (Int → Int) × (Int → Int) => good 71 [.inr 1000, .inl x1, .inl e.1, .inr 1000] [] [.inr 1, .inl f1, .inr 4, .inr 3, .inr 4, .inl e.2.1, .inl e.2.2.1, .inl e.2.2.2.1, .inl f8, .inl f9, .inl e.2.2.2.2.1, .inl f11, .inl f12, .inl f13, .inl f14, .inl f15, .inl e.2.2.2.2.2.1, .inl f17, .inl e.2.2.2.2.2.2.1, .inl f19, .inl f20, .inl f21, .inl f22, .inr 1000, .inr 1000, .inl e.2.2.2.2.2.2.2.1] [e.2.2.2.2.2.2.2.2.1, e.2.2.2.2.2.2.2.2.2.1, g2, g3, g4, g5, g6, g7, g8, e.2.2.2.2.2.2.2.2.2.2.1, g10, e.2.2.2.2.2.2.2.2.2.2.2.1, e.2.2.2.2.2.2.2.2.2.2.2.2.1, e.2.2.2.2.2.2.2.2.2.2.2.2.2.1, g14, e.2.2.2.2.2.2.2.2.2.2.2.2.2.2.1, e.2.2.2.2.2.2.2.2.2.2.2.2.2.2.2]) (fun w : Int × Int × Int × Int × Int × Int × Int × Int × (Int → Int) × (Int → Int) × (Int → Int) × (Int → Int) × (Int → Int) × (Int → Int) × (Int → Int) × (Int → Int) => w = o) q) → good 40 [.inr 0, .inl x1, .inl x2, .inl x3] [] [.inr 1, .inl f1, .inr 4, .inr 3, .inr 4, .inl f5, .inl f6, .inl f7, .inl f8, .inl f9, .inl f10, .inl f11, .inl f12, .inl f13, .inl f14, .inl f15, .inl f16, .inl f17, .inl f18, .inl f19, .inl f20, .inl f21, .inl f22, .inr 1000, .inr 1000, .inl f25] [g0, g1, g2, g3, g4, g5, g6, g7, g8, g9, g10, g11, g12, g13, g14, g15, g16] := by
    intro n
    induction n with
    | zero => intro x1 x2 x3 f5 f6 f7 f10 f16 f18 f25 g0 g1 g9 g11 g12 g13 g15 g16 q h; exact absurd (show none = some q from h) (fun h => by cases h)
    | succ n ih =>
      intro x1 x2 x3 f5 f6 f7 f10 f16 f18 f25 g0 g1 g9 g11 g12 g13 g15 g16 q h hK
      replace h : zf_X_where_l0_b x1 f8 f9 f11 f12 f13 f14 f15 f17 f19 f20 f21 f22 g2 g3 g4 g5 g6 g7 g8 g10 g14 (zf_X_where_l0 x1 f8 f9 f11 f12 f13 f14 f15 f17 f19 f20 f21 f22 g2 g3 g4 g5 g6 g7 g8 g10 g14 n) x2 x3 f5 f6 f7 f10 f16 f18 f25 g0 g1 g9 g11 g12 g13 g15 g16 = some q := h
      unfold zf_X_where_l0_b at h
      refine zv_ild hB zd122_40 rfl rfl ?_
      refine zv_con hB zd122_41 rfl ?_
      refine zv_cge hB zd122_44 rfl (fun hc5 => ?_) (fun hc5 => ?_)
      · rw [if_neg (Int.not_lt.mpr hc5)] at h
        have hq := Option.some.inj h
        subst hq
        refine zv_wk hB (L' := [.inr 1000, .inl x1, .inl x2, .inr 1000]) (F' := [.inr 1, .inl f1, .inr 4, .inr 3, .inr 4, .inl f5, .inl f6, .inl f7, .inl f8, .inl f9, .inl f10, .inl f11, .inl f12, .inl f13, .inl f14, .inl f15, .inl f16, .inl f17, .inl f18, .inl f19, .inl f20, .inl f21, .inl f22, .inr 1000, .inr 1000, .inl f25]) ⟨fun (h : zv_is (.inr 1000)) => (Nat.lt_irrefl 1000 h).elim, fun _ => rfl, fun _ => rfl, fun (h : zv_is (.inr 1000)) => (Nat.lt_irrefl 1000 h).elim, trivial⟩ ⟨fun _ => rfl, fun _ => rfl, fun _ => rfl, fun _ => rfl, fun _ => rfl, fun _ => rfl, fun _ => rfl, fun _ => rfl, fun _ => rfl, fun _ => rfl, fun _ => rfl, fun _ => rfl, fun _ => rfl, fun _ => rfl, fun _ => rfl, fun _ => rfl, fun _ => rfl, fun _ => rfl, fun _ => rfl, fun _ => rfl, fun _ => rfl, fun _ => rfl, fun _ => rfl, fun (h : zv_is (.inr 1000)) => (Nat.lt_irrefl 1000 h).elim, fun (h : zv_is (.inr 1000)) => (Nat.lt_irrefl 1000 h).elim, fun _ => rfl, trivial⟩ ?_
        exact hK
      · rw [if_pos hc5] at h
        refine zv_ald hB zd122_47 rfl rfl rfl ?_
        refine zv_ild hB zd122_48 rfl rfl ?_
        obtain ⟨r6, hr6, h⟩ := zi_bind h
        refine zv_cv hB (zv_emq (va2 := [.inr 0, .inl x3]) (F := [.inr 1, .inl f1, .inr 4, .inr 3, .inr 4, .inl f5, .inl f6, .inl f7, .inl f8, .inl f9, .inl f10, .inl f11, .inl f12, .inl f13, .inl f14, .inl f15, .inl f16, .inl f17, .inl f18, .inl f19, .inl f20, .inl f21, .inl f22, .inr 1000, .inr 1000, .inl f25]) (F' := [.inr 1, .inl f1, .inr 4, .inr 3, .inr 4, .inl r6.2.2.2.2.1, .inl r6.2.1, .inl r6.2.2.1, .inl f8, .inl f9, .inl r6.2.2.2.1, .inl f11, .inl f12, .inl f13, .inl f14, .inl f15, .inl r6.2.2.2.2.2.1, .inl f17, .inl r6.2.2.2.2.2.2.1, .inl f19, .inl f20, .inl f21, .inl f22, .inr 1000, .inr 1000, .inl r6.2.2.2.2.2.2.2.1]) (G := [g0, g1, g2, g3, g4, g5, g6, g7, g8, g9, g10, g11, g12, g13, g14, g15, g16]) (G' := [r6.2.2.2.2.2.2.2.2.2.2.2.1, r6.2.2.2.2.2.2.2.2.1, g2, g3, g4, g5, g6, g7, g8, r6.2.2.2.2.2.2.2.2.2.1, g10, r6.2.2.2.2.2.2.2.2.2.2.1, r6.2.2.2.2.2.2.2.2.2.2.2.2.1, r6.2.2.2.2.2.2.2.2.2.2.2.2.2.1, g14, r6.2.2.2.2.2.2.2.2.2.2.2.2.2.2.1, r6.2.2.2.2.2.2.2.2.2.2.2.2.2.2.2]) (ρ := [0, 2, 4, 6, 3, 7, 8, 9, 10, 11, 12, 13, 14, 15, 1, 16, 5, 17, 18, 19, 20, 21, 22]) (φ := [4, 3, 6, 7, 8, 9, 10, 11, 12, 13, 14, 15, 5, 16, 17, 18, 19, 0, 20, 21, 22, 23, 24, 25]) (ψ := [1, 2, 3, 4, 5, 6, 7, 8, 9, 10, 11, 0, 12, 13, 14, 15, 16]) [some 17, none, none, some 1, some 0, some 12, some 2, some 3, some 4, some 5, some 6, some 7, some 8, some 9, some 10, some 11, some 13, some 14, some 15, some 16, some 18, some 19, some 20, some 21, some 22, some 23] [some 11, some 0, some 1, some 2, some 3, some 4, some 5, some 6, some 7, some 8, some 9, some 10, some 12, some 13, some 14, some 15, some 16] zyw_X_canBeTold zyw_X_where zye_X_where (by decide +kernel) (zt_X_canBeTold hr6) ⟨⟨_, rfl, fun _ => rfl⟩, ⟨_, rfl, fun _ => rfl⟩, ⟨_, rfl, fun _ => rfl⟩, ⟨_, rfl, fun _ => rfl⟩, ⟨_, rfl, fun _ => rfl⟩, ⟨_, rfl, fun _ => rfl⟩, ⟨_, rfl, fun _ => rfl⟩, ⟨_, rfl, fun _ => rfl⟩, ⟨_, rfl, fun _ => rfl⟩, ⟨_, rfl, fun _ => rfl⟩, ⟨_, rfl, fun _ => rfl⟩, ⟨_, rfl, fun _ => rfl⟩, ⟨_, rfl, fun _ => rfl⟩, ⟨_, rfl, fun _ => rfl⟩, ⟨_, rfl, fun _ => rfl⟩, ⟨_, rfl, fun _ => rfl⟩, ⟨_, rfl, fun _ => rfl⟩, ⟨_, rfl, fun _ => rfl⟩, ⟨_, rfl, fun _ => rfl⟩, ⟨_, rfl, fun _ => rfl⟩, ⟨_, rfl, fun _ => rfl⟩, ⟨_, rfl, fun (h : zv_is (.inr 1000)) => (Nat.lt_irrefl 1000 h).elim⟩, ⟨_, rfl, fun (h : zv_is (.inr 1000)) => (Nat.lt_irrefl 1000 h).elim⟩, ⟨_, rfl, fun _ => rfl⟩, trivial⟩ ⟨rfl, rfl, rfl, rfl, rfl, rfl, rfl, rfl, rfl, rfl, rfl, rfl, rfl, rfl, rfl, rfl, rfl, trivial⟩ rfl rfl rfl rfl rfl rfl rfl) zd122_49 zxt123 rfl (by decide) (by decide) rfl ?_
        refine zv_zeq hB zd122_52 rfl (fun hc7 => ?_) (fun hc7 => ?_)
        · rw [if_pos hc7] at h
          refine zv_iincw hB zd122_65 rfl rfl ?_
          refine zv_goto hB zd122_68 rfl ?_
          exact ih _ _ _ _ _ _ _ _ _ _ _ _ _ _ _ _ _ _ q h hK
        · rw [if_neg hc7] at h
          refine zv_ild hB zd122_55 rfl rfl ?_
          refine zv_con hB zd122_56 rfl ?_
          refine zv_cne hB zd122_57 rfl (fun hc8 => ?_) (fun hc8 => ?_)
          · rw [if_neg hc8] at h
            refine zv_iincw hB zd122_62 rfl rfl ?_
            refine zv_iincw hB zd122_65 rfl rfl ?_
            refine zv_goto hB zd122_68 rfl ?_
            exact ih _ _ _ _ _ _ _ _ _ _ _ _ _ _ _ _ _ _ q h hK
          · rw [if_pos hc8] at h
            refine zv_ild hB zd122_60 rfl rfl ?_
            have hw : (x3, r6.2.2.2.2.1, r6.2.1, r6.2.2.1, r6.2.2.2.1, r6.2.2.2.2.2.1, r6.2.2.2.2.2.2.1, r6.2.2.2.2.2.2.2.1, r6.2.2.2.2.2.2.2.2.2.2.2.1, r6.2.2.2.2.2.2.2.2.1, r6.2.2.2.2.2.2.2.2.2.1, r6.2.2.2.2.2.2.2.2.2.2.1, r6.2.2.2.2.2.2.2.2.2.2.2.2.1, r6.2.2.2.2.2.2.2.2.2.2.2.2.2.1, r6.2.2.2.2.2.2.2.2.2.2.2.2.2.2.1, r6.2.2.2.2.2.2.2.2.2.2.2.2.2.2.2) = o := zi_rk (Option.some.inj h) hK
            refine zv_wk hB (L' := [.inr 0, .inl x1, .inl x2, .inl x3]) (F' := [.inr 1, .inl f1, .inr 4, .inr 1000, .inr 1000, .inl r6.2.2.2.2.1, .inl r6.2.1, .inl r6.2.2.1, .inl f8, .inl f9, .inl r6.2.2.2.1, .inl f11, .inl f12, .inl f13, .inl f14, .inl f15, .inl r6.2.2.2.2.2.1, .inl f17, .inl r6.2.2.2.2.2.2.1, .inl f19, .inl f20, .inl f21, .inl f22, .inr 1000, .inr 1000, .inl r6.2.2.2.2.2.2.2.1]) ⟨fun _ => rfl, fun _ => rfl, fun _ => rfl, fun _ => rfl, trivial⟩ ⟨fun _ => rfl, fun _ => rfl, fun _ => rfl, fun (h : zv_is (.inr 1000)) => (Nat.lt_irrefl 1000 h).elim, fun (h : zv_is (.inr 1000)) => (Nat.lt_irrefl 1000 h).elim, fun _ => rfl, fun _ => rfl, fun _ => rfl, fun _ => rfl, fun _ => rfl, fun _ => rfl, fun _ => rfl, fun _ => rfl, fun _ => rfl, fun _ => rfl, fun _ => rfl, fun _ => rfl, fun _ => rfl, fun _ => rfl, fun _ => rfl, fun _ => rfl, fun _ => rfl, fun _ => rfl, fun (h : zv_is (.inr 1000)) => (Nat.lt_irrefl 1000 h).elim, fun (h : zv_is (.inr 1000)) => (Nat.lt_irrefl 1000 h).elim, fun _ => rfl, trivial⟩ ?_
            subst hw
            exact hret _ _ _ _ _ zd122_61 (by trivial) ⟨rfl, rfl, rfl⟩
  unfold zf_X_where at h
  refine zv_ild hB zd122_0 rfl rfl ?_
  refine zv_con hB zd122_1 rfl ?_
  refine zv_con hB zd122_2 rfl ?_
  obtain ⟨r1, hr1, h⟩ := zi_bind h
  refine zv_cs hB (zv_emq (va2 := [.inl x1, .inl 0, .inl 1]) (F := [.inr 1, .inl f1, .inr 4, .inr 1000, .inr 1000, .inl f5, .inl f6, .inl f7, .inl f8, .inl f9, .inl f10, .inl f11, .inl f12, .inl f13, .inl f14, .inl f15, .inl f16, .inl f17, .inl f18, .inl f19, .inl f20, .inl f21, .inl f22, .inr 1000, .inr 1000, .inl f25]) (F' := [.inr 1, .inl f1, .inr 4, .inr 1000, .inr 1000, .inl f5, .inl f6, .inl f7, .inl f8, .inl f9, .inl f10, .inl f11, .inl f12, .inl f13, .inl f14, .inl f15, .inl f16, .inl f17, .inl f18, .inl f19, .inl f20, .inl f21, .inl f22, .inr 1000, .inr 1000, .inl f25]) (G := [g0, g1, g2, g3, g4, g5, g6, g7, g8, g9, g10, g11, g12, g13, g14, g15, g16]) (G' := [g0, g1, g2, g3, g4, g5, g6, g7, g8, g9, g10, g11, g12, g13, g14, g15, g16]) (ρ := []) (φ := []) (ψ := []) [none, none, none, none, none, none, none, none, none, none, none, none, none, none, none, none, none, none, none, none, none, none, none, none, none, none] [none, none, none, none, none, none, none, none, none, none, none, none, none, none, none, none, none] zyw_X_isWithin zyw_X_where zye_X_where (by decide +kernel) (zt_X_isWithin hr1) trivial trivial rfl rfl rfl rfl rfl rfl rfl) zd122_3 zxt15 rfl (by decide) (by decide) rfl ?_
  refine zv_zeq hB zd122_6 rfl (fun hc2 => ?_) (fun hc2 => ?_)
  · rw [if_pos hc2] at h
    refine zv_con hB zd122_19 rfl ?_
    have hw := Option.some.inj h
    subst hw
    exact hret _ _ _ _ _ zd122_20 (by trivial) ⟨rfl, rfl, rfl⟩
  · rw [if_neg hc2] at h
    refine zv_ald hB zd122_9 rfl rfl rfl ?_
    refine zv_getq hB zd122_10 rfl rfl rfl ?_
    refine zv_getf hB zd122_13 rfl rfl (fun _ _ => ?_)
    refine zv_zne hB zd122_16 rfl (fun hc3 => ?_) (fun hc3 => ?_)
    · rw [if_neg hc3] at h
      refine zv_ald hB zd122_21 rfl rfl rfl ?_
      refine zv_getr hB zd122_22 rfl ?_
      refine zv_ald hB zd122_25 rfl rfl rfl ?_
      refine zv_getr hB zd122_26 rfl ?_
      refine zv_ald hB zd122_29 rfl rfl rfl ?_
      refine zv_getq hB zd122_30 rfl rfl rfl ?_
      obtain ⟨r4, hr4, h⟩ := zi_bind h
      refine zv_cv hB (zv_emq (va2 := [.inr 2, .inr 3, .inr 4]) (F := [.inr 1, .inl f1, .inr 4, .inr 1000, .inr 1000, .inl f5, .inl f6, .inl f7, .inl f8, .inl f9, .inl f10, .inl f11, .inl f12, .inl f13, .inl f14, .inl f15, .inl f16, .inl f17, .inl f18, .inl f19, .inl f20, .inl f21, .inl f22, .inr 1000, .inr 1000, .inl f25]) (F' := [.inr 1, .inl f1, .inr 4, .inr 3, .inr 4, .inl r4.1, .inl f6, .inl f7, .inl f8, .inl f9, .inl f10, .inl f11, .inl f12, .inl f13, .inl f14, .inl f15, .inl f16, .inl f17, .inl f18, .inl f19, .inl f20, .inl f21, .inl f22, .inr 1000, .inr 1000, .inl f25]) (G := [g0, g1, g2, g3, g4, g5, g6, g7, g8, g9, g10, g11, g12, g13, g14, g15, g16]) (G' := [r4.2, g1, g2, g3, g4, g5, g6, g7, g8, g9, g10, g11, g12, g13, g14, g15, g16]) (ρ := [2, 3, 4, 5]) (φ := [3, 4, 5]) (ψ := [0]) [none, none, none, some 0, some 1, some 2, none, none, none, none, none, none, none, none, none, none, none, none, none, none, none, none, none, none, none, none] [some 0, none, none, none, none, none, none, none, none, none, none, none, none, none, none, none, none] zyw_View_open zyw_X_where zye_X_where (by decide +kernel) (zt_View_open hr4) ⟨⟨_, rfl, fun (h : zv_is (.inr 1000)) => (Nat.lt_irrefl 1000 h).elim⟩, ⟨_, rfl, fun (h : zv_is (.inr 1000)) => (Nat.lt_irrefl 1000 h).elim⟩, ⟨_, rfl, fun _ => rfl⟩, trivial⟩ ⟨rfl, trivial⟩ rfl rfl rfl rfl rfl rfl rfl) zd122_33 zxt84 rfl (by decide) (by decide) rfl ?_
      refine zv_con hB zd122_36 rfl ?_
      refine zv_ist hB zd122_37 rfl rfl rfl ?_
      refine zv_con hB zd122_38 rfl ?_
      refine zv_ist hB zd122_39 rfl rfl rfl ?_
      obtain ⟨q9, hq9, h⟩ := zi_bind h
      refine l0 _ _ _ _ _ _ _ _ _ _ _ _ _ _ _ _ _ _ _ q9 hq9 ?_
      rcases q9 with e10 | w12
      · replace h := zi_sl h
        show good 71 [.inr 1000, .inl x1, .inl e10.1, .inr 1000] [] [.inr 1, .inl f1, .inr 4, .inr 3, .inr 4, .inl e10.2.1, .inl e10.2.2.1, .inl e10.2.2.2.1, .inl f8, .inl f9, .inl e10.2.2.2.2.1, .inl f11, .inl f12, .inl f13, .inl f14, .inl f15, .inl e10.2.2.2.2.2.1, .inl f17, .inl e10.2.2.2.2.2.2.1, .inl f19, .inl f20, .inl f21, .inl f22, .inr 1000, .inr 1000, .inl e10.2.2.2.2.2.2.2.1] [e10.2.2.2.2.2.2.2.2.1, e10.2.2.2.2.2.2.2.2.2.1, g2, g3, g4, g5, g6, g7, g8, e10.2.2.2.2.2.2.2.2.2.2.1, g10, e10.2.2.2.2.2.2.2.2.2.2.2.1, e10.2.2.2.2.2.2.2.2.2.2.2.2.1, e10.2.2.2.2.2.2.2.2.2.2.2.2.2.1, g14, e10.2.2.2.2.2.2.2.2.2.2.2.2.2.2.1, e10.2.2.2.2.2.2.2.2.2.2.2.2.2.2.2]
        refine zv_ild hB zd122_71 rfl rfl ?_
        refine zv_con hB zd122_72 rfl ?_
        refine zv_cne hB zd122_73 rfl (fun hc11 => ?_) (fun hc11 => ?_)
        · rw [if_neg hc11] at h
          refine zv_ild hB zd122_81 rfl rfl ?_
          have hw := Option.some.inj h
          refine zv_wk hB (L' := [.inr 1000, .inl x1, .inl e10.1, .inr 1000]) (F' := [.inr 1, .inl f1, .inr 4, .inr 1000, .inr 1000, .inl e10.2.1, .inl e10.2.2.1, .inl e10.2.2.2.1, .inl f8, .inl f9, .inl e10.2.2.2.2.1, .inl f11, .inl f12, .inl f13, .inl f14, .inl f15, .inl e10.2.2.2.2.2.1, .inl f17, .inl e10.2.2.2.2.2.2.1, .inl f19, .inl f20, .inl f21, .inl f22, .inr 1000, .inr 1000, .inl e10.2.2.2.2.2.2.2.1]) ⟨fun _ => rfl, fun _ => rfl, fun _ => rfl, fun _ => rfl, trivial⟩ ⟨fun _ => rfl, fun _ => rfl, fun _ => rfl, fun (h : zv_is (.inr 1000)) => (Nat.lt_irrefl 1000 h).elim, fun (h : zv_is (.inr 1000)) => (Nat.lt_irrefl 1000 h).elim, fun _ => rfl, fun _ => rfl, fun _ => rfl, fun _ => rfl, fun _ => rfl, fun _ => rfl, fun _ => rfl, fun _ => rfl, fun _ => rfl, fun _ => rfl, fun _ => rfl, fun _ => rfl, fun _ => rfl, fun _ => rfl, fun _ => rfl, fun _ => rfl, fun _ => rfl, fun _ => rfl, fun (h : zv_is (.inr 1000)) => (Nat.lt_irrefl 1000 h).elim, fun (h : zv_is (.inr 1000)) => (Nat.lt_irrefl 1000 h).elim, fun _ => rfl, trivial⟩ ?_
          subst hw
          exact hret _ _ _ _ _ zd122_82 (by trivial) ⟨rfl, rfl, rfl⟩
        · rw [if_pos hc11] at h
          refine zv_con hB zd122_76 rfl ?_
          refine zv_goto hB zd122_78 rfl ?_
          have hw := Option.some.inj h
          refine zv_wk hB (L' := [.inr 1000, .inl x1, .inl e10.1, .inr 1000]) (F' := [.inr 1, .inl f1, .inr 4, .inr 1000, .inr 1000, .inl e10.2.1, .inl e10.2.2.1, .inl e10.2.2.2.1, .inl f8, .inl f9, .inl e10.2.2.2.2.1, .inl f11, .inl f12, .inl f13, .inl f14, .inl f15, .inl e10.2.2.2.2.2.1, .inl f17, .inl e10.2.2.2.2.2.2.1, .inl f19, .inl f20, .inl f21, .inl f22, .inr 1000, .inr 1000, .inl e10.2.2.2.2.2.2.2.1]) ⟨fun _ => rfl, fun _ => rfl, fun _ => rfl, fun _ => rfl, trivial⟩ ⟨fun _ => rfl, fun _ => rfl, fun _ => rfl, fun (h : zv_is (.inr 1000)) => (Nat.lt_irrefl 1000 h).elim, fun (h : zv_is (.inr 1000)) => (Nat.lt_irrefl 1000 h).elim, fun _ => rfl, fun _ => rfl, fun _ => rfl, fun _ => rfl, fun _ => rfl, fun _ => rfl, fun _ => rfl, fun _ => rfl, fun _ => rfl, fun _ => rfl, fun _ => rfl, fun _ => rfl, fun _ => rfl, fun _ => rfl, fun _ => rfl, fun _ => rfl, fun _ => rfl, fun _ => rfl, fun (h : zv_is (.inr 1000)) => (Nat.lt_irrefl 1000 h).elim, fun (h : zv_is (.inr 1000)) => (Nat.lt_irrefl 1000 h).elim, fun _ => rfl, trivial⟩ ?_
          subst hw
          exact hret _ _ _ _ _ zd122_82 (by trivial) ⟨rfl, rfl, rfl⟩
      · exact Option.some.inj h
    · rw [if_pos hc3] at h
      refine zv_con hB zd122_19 rfl ?_
      have hw := Option.some.inj h
      subst hw
      exact hret _ _ _ _ _ zd122_20 (by trivial) ⟨rfl, rfl, rfl⟩
/-! Sky_copyFrom (LStarTales$Sky;)V -/
-- names: 0 Sky('arg', 0), 1 Sky('arg', 1), 2 (0, 24)(1, 1, 1), 3 (0, 24)(0, 1, 1), 4 (0, 24)(1, 1, 2), 5 (0, 24)(0, 1, 2), 6 (0, 24)(1, 1, 3), 7 (0, 24)(0, 1, 3), 8 (0, 24)(1, 1, 4), 9 (0, 24)(0, 1, 4), 10 (0, 24)(1, 1, 5), 11 (0, 24)(0, 1, 5)
-- fields: f0 = 1.told_, f1 = 0.told_, f2 = 1.hour_, f3 = 0.hour_, f4 = 1.night_, f5 = 0.night_, f6 = 1.clouds_, f7 = 0.clouds_, f8 = 1.sightColumns_, f9 = 0.sightColumns_, f10 = 1.sightRows_, f11 = 0.sightRows_, f12 = 1.chance_, f13 = 0.chance_; arrays: g0 = 2, g1 = 3, g2 = 4, g3 = 5, g4 = 6, g5 = 7, g6 = 8, g7 = 9, g8 = 10, g9 = 11; out: [('f', 1), ('f', 3), ('f', 5), ('f', 7), ('f', 9), ('f', 11), ('f', 13), ('g', 1), ('g', 3), ('g', 5), ('g', 7), ('g', 9)]
abbrev zy_Sky_copyFrom : zNL := (12, [(0, 1), (1, 1)], [(1, 1, 0, 0), (0, 1, 0, 1), (1, 1, 6, 2), (0, 1, 6, 3), (1, 1, 7, 4), (0, 1, 7, 5), (1, 1, 8, 6), (0, 1, 8, 7), (1, 1, 9, 8), (0, 1, 9, 9), (1, 1, 10, 10), (0, 1, 10, 11), (1, 1, 11, 12), (0, 1, 11, 13)], [(1, 1, 1, 2), (0, 1, 1, 3), (1, 1, 2, 4), (0, 1, 2, 5), (1, 1, 3, 6), (0, 1, 3, 7), (1, 1, 4, 8), (0, 1, 4, 9), (1, 1, 5, 10), (0, 1, 5, 11)], [(2, 0, 24, 0), (3, 0, 24, 1), (4, 0, 24, 2), (5, 0, 24, 3), (6, 0, 24, 4), (7, 0, 24, 5), (8, 0, 24, 6), (9, 0, 24, 7), (10, 0, 24, 8), (11, 0, 24, 9)])
theorem zyw_Sky_copyFrom : zv_wf zy_Sky_copyFrom = true := by decide +kernel
theorem zye_Sky_copyFrom : zv_ek2 zy_Sky_copyFrom = true := by decide +kernel
def zf_Sky_copyFrom (f0 : Int) (f1 : Int) (f2 : Int) (f3 : Int) (f4 : Int) (f5 : Int) (f6 : Int) (f7 : Int) (f8 : Int) (f9 : Int) (f10 : Int) (f11 : Int) (f12 : Int) (f13 : Int) (g0 : (Int → Int)) (g1 : (Int → Int)) (g2 : (Int → Int)) (g3 : (Int → Int)) (g4 : (Int → Int)) (g5 : (Int → Int)) (g6 : (Int → Int)) (g7 : (Int → Int)) (g8 : (Int → Int)) (g9 : (Int → Int)) : Option (Int × Int × Int × Int × Int × Int × Int × (Int → Int) × (Int → Int) × (Int → Int) × (Int → Int) × (Int → Int)) := some (f0, f2, f4, f6, f8, f10, f12, (zv_cpy g0 g1 24), (zv_cpy g2 g3 24), (zv_cpy g4 g5 24), (zv_cpy g6 g7 24), (zv_cpy g8 g9 24))
theorem zd125_0 : decode zxm125.2.1 0 = .ok (.aload_n 0, 1) := by decide +kernel
theorem zd125_1 : decode zxm125.2.1 1 = .ok (.aload_n 1, 1) := by decide +kernel
theorem zd125_2 : decode zxm125.2.1 2 = .ok (.getfield 9, 3) := by decide +kernel
theorem zd125_5 : decode zxm125.2.1 5 = .ok (.putfield 9, 3) := by decide +kernel
theorem zd125_8 : decode zxm125.2.1 8 = .ok (.aload_n 1, 1) := by decide +kernel
theorem zd125_9 : decode zxm125.2.1 9 = .ok (.getfield 15, 3) := by decide +kernel
theorem zd125_12 : decode zxm125.2.1 12 = .ok (.iconst 0, 1) := by decide +kernel
theorem zd125_13 : decode zxm125.2.1 13 = .ok (.aload_n 0, 1) := by decide +kernel
theorem zd125_14 : decode zxm125.2.1 14 = .ok (.getfield 15, 3) := by decide +kernel
theorem zd125_17 : decode zxm125.2.1 17 = .ok (.iconst 0, 1) := by decide +kernel
theorem zd125_18 : decode zxm125.2.1 18 = .ok (.bipush 24, 2) := by decide +kernel
theorem zd125_20 : decode zxm125.2.1 20 = .ok (.invokestatic 87, 3) := by decide +kernel
theorem zd125_23 : decode zxm125.2.1 23 = .ok (.aload_n 1, 1) := by decide +kernel
theorem zd125_24 : decode zxm125.2.1 24 = .ok (.getfield 19, 3) := by decide +kernel
theorem zd125_27 : decode zxm125.2.1 27 = .ok (.iconst 0, 1) := by decide +kernel
theorem zd125_28 : decode zxm125.2.1 28 = .ok (.aload_n 0, 1) := by decide +kernel
theorem zd125_29 : decode zxm125.2.1 29 = .ok (.getfield 19, 3) := by decide +kernel
theorem zd125_32 : decode zxm125.2.1 32 = .ok (.iconst 0, 1) := by decide +kernel
theorem zd125_33 : decode zxm125.2.1 33 = .ok (.bipush 24, 2) := by decide +kernel
theorem zd125_35 : decode zxm125.2.1 35 = .ok (.invokestatic 87, 3) := by decide +kernel
theorem zd125_38 : decode zxm125.2.1 38 = .ok (.aload_n 1, 1) := by decide +kernel
theorem zd125_39 : decode zxm125.2.1 39 = .ok (.getfield 22, 3) := by decide +kernel
theorem zd125_42 : decode zxm125.2.1 42 = .ok (.iconst 0, 1) := by decide +kernel
theorem zd125_43 : decode zxm125.2.1 43 = .ok (.aload_n 0, 1) := by decide +kernel
theorem zd125_44 : decode zxm125.2.1 44 = .ok (.getfield 22, 3) := by decide +kernel
theorem zd125_47 : decode zxm125.2.1 47 = .ok (.iconst 0, 1) := by decide +kernel
theorem zd125_48 : decode zxm125.2.1 48 = .ok (.bipush 24, 2) := by decide +kernel
theorem zd125_50 : decode zxm125.2.1 50 = .ok (.invokestatic 87, 3) := by decide +kernel
theorem zd125_53 : decode zxm125.2.1 53 = .ok (.aload_n 1, 1) := by decide +kernel
theorem zd125_54 : decode zxm125.2.1 54 = .ok (.getfield 25, 3) := by decide +kernel
theorem zd125_57 : decode zxm125.2.1 57 = .ok (.iconst 0, 1) := by decide +kernel
theorem zd125_58 : decode zxm125.2.1 58 = .ok (.aload_n 0, 1) := by decide +kernel
theorem zd125_59 : decode zxm125.2.1 59 = .ok (.getfield 25, 3) := by decide +kernel
theorem zd125_62 : decode zxm125.2.1 62 = .ok (.iconst 0, 1) := by decide +kernel
theorem zd125_63 : decode zxm125.2.1 63 = .ok (.bipush 24, 2) := by decide +kernel
theorem zd125_65 : decode zxm125.2.1 65 = .ok (.invokestatic 87, 3) := by decide +kernel
theorem zd125_68 : decode zxm125.2.1 68 = .ok (.aload_n 1, 1) := by decide +kernel
theorem zd125_69 : decode zxm125.2.1 69 = .ok (.getfield 28, 3) := by decide +kernel
theorem zd125_72 : decode zxm125.2.1 72 = .ok (.iconst 0, 1) := by decide +kernel
theorem zd125_73 : decode zxm125.2.1 73 = .ok (.aload_n 0, 1) := by decide +kernel
theorem zd125_74 : decode zxm125.2.1 74 = .ok (.getfield 28, 3) := by decide +kernel
theorem zd125_77 : decode zxm125.2.1 77 = .ok (.iconst 0, 1) := by decide +kernel
theorem zd125_78 : decode zxm125.2.1 78 = .ok (.bipush 24, 2) := by decide +kernel
theorem zd125_80 : decode zxm125.2.1 80 = .ok (.invokestatic 87, 3) := by decide +kernel
theorem zd125_83 : decode zxm125.2.1 83 = .ok (.aload_n 0, 1) := by decide +kernel
theorem zd125_84 : decode zxm125.2.1 84 = .ok (.aload_n 1, 1) := by decide +kernel
theorem zd125_85 : decode zxm125.2.1 85 = .ok (.getfield 31, 3) := by decide +kernel
theorem zd125_88 : decode zxm125.2.1 88 = .ok (.putfield 31, 3) := by decide +kernel
theorem zd125_91 : decode zxm125.2.1 91 = .ok (.aload_n 0, 1) := by decide +kernel
theorem zd125_92 : decode zxm125.2.1 92 = .ok (.aload_n 1, 1) := by decide +kernel
theorem zd125_93 : decode zxm125.2.1 93 = .ok (.getfield 34, 3) := by decide +kernel
theorem zd125_96 : decode zxm125.2.1 96 = .ok (.putfield 34, 3) := by decide +kernel
theorem zd125_99 : decode zxm125.2.1 99 = .ok (.aload_n 0, 1) := by decide +kernel
theorem zd125_100 : decode zxm125.2.1 100 = .ok (.aload_n 1, 1) := by decide +kernel
theorem zd125_101 : decode zxm125.2.1 101 = .ok (.getfield 37, 3) := by decide +kernel
theorem zd125_104 : decode zxm125.2.1 104 = .ok (.putfield 37, 3) := by decide +kernel
theorem zd125_107 : decode zxm125.2.1 107 = .ok (.aload_n 0, 1) := by decide +kernel
theorem zd125_108 : decode zxm125.2.1 108 = .ok (.aload_n 1, 1) := by decide +kernel
theorem zd125_109 : decode zxm125.2.1 109 = .ok (.getfield 40, 3) := by decide +kernel
theorem zd125_112 : decode zxm125.2.1 112 = .ok (.putfield 40, 3) := by decide +kernel
theorem zd125_115 : decode zxm125.2.1 115 = .ok (.aload_n 0, 1) := by decide +kernel
theorem zd125_116 : decode zxm125.2.1 116 = .ok (.aload_n 1, 1) := by decide +kernel
theorem zd125_117 : decode zxm125.2.1 117 = .ok (.getfield 43, 3) := by decide +kernel
theorem zd125_120 : decode zxm125.2.1 120 = .ok (.putfield 43, 3) := by decide +kernel
theorem zd125_123 : decode zxm125.2.1 123 = .ok (.aload_n 0, 1) := by decide +kernel
theorem zd125_124 : decode zxm125.2.1 124 = .ok (.aload_n 1, 1) := by decide +kernel
theorem zd125_125 : decode zxm125.2.1 125 = .ok (.getfield 46, 3) := by decide +kernel
theorem zd125_128 : decode zxm125.2.1 128 = .ok (.putfield 46, 3) := by decide +kernel
theorem zd125_131 : decode zxm125.2.1 131 = .ok (.return_, 1) := by decide +kernel
theorem zt_Sky_copyFrom {f0 : Int} {f1 : Int} {f2 : Int} {f3 : Int} {f4 : Int} {f5 : Int} {f6 : Int} {f7 : Int} {f8 : Int} {f9 : Int} {f10 : Int} {f11 : Int} {f12 : Int} {f13 : Int} {g0 : (Int → Int)} {g1 : (Int → Int)} {g2 : (Int → Int)} {g3 : (Int → Int)} {g4 : (Int → Int)} {g5 : (Int → Int)} {g6 : (Int → Int)} {g7 : (Int → Int)} {g8 : (Int → Int)} {g9 : (Int → Int)} {o : Int × Int × Int × Int × Int × Int × Int × (Int → Int) × (Int → Int) × (Int → Int) × (Int → Int) × (Int → Int)} (h : zf_Sky_copyFrom f0 f1 f2 f3 f4 f5 f6 f7 f8 f9 f10 f11 f12 f13 g0 g1 g2 g3 g4 g5 g6 g7 g8 g9 = some o) : zv_Fn z_TB z_cl z_KX zy_Sky_copyFrom zxm125 (1, 60) [.inr 0, .inr 1] [.inl f0, .inl f1, .inl f2, .inl f3, .inl f4, .inl f5, .inl f6, .inl f7, .inl f8, .inl f9, .inl f10, .inl f11, .inl f12, .inl f13] [g0, g1, g2, g3, g4, g5, g6, g7, g8, g9] none [.inl f0, .inl o.1, .inl f2, .inl o.2.1, .inl f4, .inl o.2.2.1, .inl f6, .inl o.2.2.2.1, .inl f8, .inl o.2.2.2.2.1, .inl f10, .inl o.2.2.2.2.2.1, .inl f12, .inl o.2.2.2.2.2.2.1] [g0, o.2.2.2.2.2.2.2.1, g2, o.2.2.2.2.2.2.2.2.1, g4, o.2.2.2.2.2.2.2.2.2.1, g6, o.2.2.2.2.2.2.2.2.2.2.1, g8, o.2.2.2.2.2.2.2.2.2.2.2] := zv_meth (K := (z_KF8, z_KC8, z_KL8, z_KT8, [], [], [], none)) (FT := z_FT) (MT := z_MT) (n := 2) zxp125 (z_ks8 _ (fun _ h => List.mem_cons_of_mem _ h) _ _ _ _ (fun j r h _ => by cases h)) (fun _ _ => zs_KX_p) zyw_Sky_copyFrom (fun va F G h => by obtain ⟨rfl, _⟩ := h; rfl) (fun va F G h => by obtain ⟨rfl, _⟩ := h; rfl) rfl fun good va F G hB hret hvret hP => by
  obtain ⟨rfl, rfl, rfl⟩ := hP
  unfold zf_Sky_copyFrom at h
  refine zv_ald hB zd125_0 rfl rfl rfl ?_
  refine zv_ald hB zd125_1 rfl rfl rfl ?_
  refine zv_getf hB zd125_2 rfl rfl (fun _ _ => ?_)
  refine zv_putf hB zd125_5 rfl rfl (fun h => by cases h) rfl ?_
  refine zv_ald hB zd125_8 rfl rfl rfl ?_
  refine zv_getr hB zd125_9 rfl ?_
  refine zv_con hB zd125_12 rfl ?_
  refine zv_ald hB zd125_13 rfl rfl rfl ?_
  refine zv_getr hB zd125_14 rfl ?_
  refine zv_con hB zd125_17 rfl ?_
  refine zv_con hB zd125_18 rfl ?_
  refine zv_acp hB zd125_20 (List.mem_of_getElem? (i := 10) rfl) rfl rfl rfl rfl (by decide) (by decide) (by decide) ⟨by decide, by decide⟩ ?_
  refine zv_ald hB zd125_23 rfl rfl rfl ?_
  refine zv_getr hB zd125_24 rfl ?_
  refine zv_con hB zd125_27 rfl ?_
  refine zv_ald hB zd125_28 rfl rfl rfl ?_
  refine zv_getr hB zd125_29 rfl ?_
  refine zv_con hB zd125_32 rfl ?_
  refine zv_con hB zd125_33 rfl ?_
  refine zv_acp hB zd125_35 (List.mem_of_getElem? (i := 10) rfl) rfl rfl rfl rfl (by decide) (by decide) (by decide) ⟨by decide, by decide⟩ ?_
  refine zv_ald hB zd125_38 rfl rfl rfl ?_
  refine zv_getr hB zd125_39 rfl ?_
  refine zv_con hB zd125_42 rfl ?_
  refine zv_ald hB zd125_43 rfl rfl rfl ?_
  refine zv_getr hB zd125_44 rfl ?_
  refine zv_con hB zd125_47 rfl ?_
  refine zv_con hB zd125_48 rfl ?_
  refine zv_acp hB zd125_50 (List.mem_of_getElem? (i := 10) rfl) rfl rfl rfl rfl (by decide) (by decide) (by decide) ⟨by decide, by decide⟩ ?_
  refine zv_ald hB zd125_53 rfl rfl rfl ?_
  refine zv_getr hB zd125_54 rfl ?_
  refine zv_con hB zd125_57 rfl ?_
  refine zv_ald hB zd125_58 rfl rfl rfl ?_
  refine zv_getr hB zd125_59 rfl ?_
  refine zv_con hB zd125_62 rfl ?_
  refine zv_con hB zd125_63 rfl ?_
  refine zv_acp hB zd125_65 (List.mem_of_getElem? (i := 10) rfl) rfl rfl rfl rfl (by decide) (by decide) (by decide) ⟨by decide, by decide⟩ ?_
  refine zv_ald hB zd125_68 rfl rfl rfl ?_
  refine zv_getr hB zd125_69 rfl ?_
  refine zv_con hB zd125_72 rfl ?_
  refine zv_ald hB zd125_73 rfl rfl rfl ?_
  refine zv_getr hB zd125_74 rfl ?_
  refine zv_con hB zd125_77 rfl ?_
  refine zv_con hB zd125_78 rfl ?_
  refine zv_acp hB zd125_80 (List.mem_of_getElem? (i := 10) rfl) rfl rfl rfl rfl (by decide) (by decide) (by decide) ⟨by decide, by decide⟩ ?_
  refine zv_ald hB zd125_83 rfl rfl rfl ?_
  refine zv_ald hB zd125_84 rfl rfl rfl ?_
  refine zv_getf hB zd125_85 rfl rfl (fun _ _ => ?_)
  refine zv_putf hB zd125_88 rfl rfl (fun h => by cases h) rfl ?_
  refine zv_ald hB zd125_91 rfl rfl rfl ?_
  refine zv_ald hB zd125_92 rfl rfl rfl ?_
  refine zv_getf hB zd125_93 rfl rfl (fun _ _ => ?_)
  refine zv_putf hB zd125_96 rfl rfl (fun h => by cases h) rfl ?_
  refine zv_ald hB zd125_99 rfl rfl rfl ?_
  refine zv_ald hB zd125_100 rfl rfl rfl ?_
  refine zv_getf hB zd125_101 rfl rfl (fun _ _ => ?_)
  refine zv_putf hB zd125_104 rfl rfl (fun h => by cases h) rfl ?_
  refine zv_ald hB zd125_107 rfl rfl rfl ?_
  refine zv_ald hB zd125_108 rfl rfl rfl ?_
  refine zv_getf hB zd125_109 rfl rfl (fun _ _ => ?_)
  refine zv_putf hB zd125_112 rfl rfl (fun h => by cases h) rfl ?_
  refine zv_ald hB zd125_115 rfl rfl rfl ?_
  refine zv_ald hB zd125_116 rfl rfl rfl ?_
  refine zv_getf hB zd125_117 rfl rfl (fun _ _ => ?_)
  refine zv_putf hB zd125_120 rfl rfl (fun h => by cases h) rfl ?_
  refine zv_ald hB zd125_123 rfl rfl rfl ?_
  refine zv_ald hB zd125_124 rfl rfl rfl ?_
  refine zv_getf hB zd125_125 rfl rfl (fun _ _ => ?_)
  refine zv_putf hB zd125_128 rfl rfl (fun h => by cases h) rfl ?_
  have hw := Option.some.inj h
  subst hw
  exact hvret _ _ _ _ zd125_131 trivial ⟨rfl, rfl, rfl⟩
end
section
/-! Methods as functions, and that they do what these do. -/
/-! X_when (II)I -/
-- names: 0 StarTales('arg', 0), 1 Tale(0, 0, 10), 2 Sky(0, 0, 2), 3 Sky(0, 0, 0), 4 (0, 24)(3, 1, 1), 5 (0, 24)(2, 1, 1), 6 (0, 24)(3, 1, 2), 7 (0, 24)(2, 1, 2), 8 (0, 24)(3, 1, 3), 9 (0, 24)(2, 1, 3), 10 (0, 24)(3, 1, 4), 11 (0, 24)(2, 1, 4), 12 (0, 24)(3, 1, 5), 13 (0, 24)(2, 1, 5), 14 View(0, 0, 12), 15 Law(0, 0, 7), 16 (0, 24)(14, 7, 8), 17 (0, 13)(15, 4, 12), 18 (0, 14)(15, 4, 3), 19 (0, 14)(15, 4, 5), 20 (0, 14)(15, 4, 6), 21 (0, 200)(15, 4, 0), 22 (0, 40)(15, 4, 13), 23 (0, 200)(15, 4, 1), 24 (0, 24)(14, 7, 5), 25 (0, 24)(14, 7, 9), 26 Matcher(0, 0, 14), 27 (0, 72)(26, 8, 0), 28 (0, 8)(1, 6, 2), 29 (0, 24)(26, 8, 1), 30 (0, 8)(26, 8, 2)
-- fields: f0 = 0.telling_, f1 = 1.lines_, f2 = 3.told_, f3 = 2.told_, f4 = 3.hour_, f5 = 2.hour_, f6 = 3.night_, f7 = 2.night_, f8 = 3.clouds_, f9 = 2.clouds_, f10 = 3.sightColumns_, f11 = 2.sightColumns_, f12 = 3.sightRows_, f13 = 2.sightRows_, f14 = 3.chance_, f15 = 2.chance_, f16 = 0.ruling_, f17 = 14.sky_, f18 = 14.law_, f19 = 14.starsAsked_, f20 = 14.x_, f21 = 14.y_, f22 = 14.shown_, f23 = 15.tellsSeen_, f24 = 14.starsHold_, f25 = 15.clauses_, f26 = 15.answer_, f27 = 15.seenByPlace_, f28 = 1.names_, f29 = 15.tellsLines_, f30 = 15.linesByPlace_, f31 = 26.tale_, f32 = 26.joined_, f33 = 26.deadEnds_; arrays: g0 = 4, g1 = 5, g2 = 6, g3 = 7, g4 = 8, g5 = 9, g6 = 10, g7 = 11, g8 = 12, g9 = 13, g10 = 16, g11 = 17, g12 = 18, g13 = 19, g14 = 20, g15 = 21, g16 = 22, g17 = 23, g18 = 24, g19 = 25, g20 = 27, g21 = 28, g22 = 29, g23 = 30; out: [('ret', None), ('f', 3), ('f', 5), ('f', 7), ('f', 9), ('f', 11), ('f', 13), ('f', 15), ('f', 19), ('f', 20), ('f', 21), ('f', 22), ('f', 24), ('f', 26), ('f', 33), ('g', 1), ('g', 3), ('g', 5), ('g', 7), ('g', 9), ('g', 10), ('g', 11), ('g', 16), ('g', 18), ('g', 19), ('g', 20), ('g', 22), ('g', 23)]
abbrev zy_X_when : zNL := (31, [(0, 0), (1, 6), (2, 1), (3, 1), (14, 7), (15, 4), (26, 8)], [(0, 0, 10, 0), (1, 6, 0, 1), (3, 1, 0, 2), (2, 1, 0, 3), (3, 1, 6, 4), (2, 1, 6, 5), (3, 1, 7, 6), (2, 1, 7, 7), (3, 1, 8, 8), (2, 1, 8, 9), (3, 1, 9, 10), (2, 1, 9, 11), (3, 1, 10, 12), (2, 1, 10, 13), (3, 1, 11, 14), (2, 1, 11, 15), (0, 0, 7, 16), (14, 7, 0, 17), (14, 7, 1, 18), (14, 7, 6, 19), (14, 7, 2, 20), (14, 7, 3, 21), (14, 7, 4, 22), (15, 4, 8, 23), (14, 7, 7, 24), (15, 4, 7, 25), (15, 4, 14, 26), (15, 4, 10, 27), (1, 6, 1, 28), (15, 4, 9, 29), (15, 4, 11, 30), (26, 8, 3, 31), (26, 8, 4, 32), (26, 8, 6, 33)], [(0, 0, 2, 2), (0, 0, 0, 3), (3, 1, 1, 4), (2, 1, 1, 5), (3, 1, 2, 6), (2, 1, 2, 7), (3, 1, 3, 8), (2, 1, 3, 9), (3, 1, 4, 10), (2, 1, 4, 11), (3, 1, 5, 12), (2, 1, 5, 13), (0, 0, 12, 14), (14, 7, 8, 16), (15, 4, 12, 17), (15, 4, 3, 18), (15, 4, 5, 19), (15, 4, 6, 20), (15, 4, 0, 21), (15, 4, 13, 22), (15, 4, 1, 23), (14, 7, 5, 24), (14, 7, 9, 25), (0, 0, 14, 26), (26, 8, 0, 27), (1, 6, 2, 28), (26, 8, 1, 29), (26, 8, 2, 30)], [(4, 0, 24, 0), (5, 0, 24, 1), (6, 0, 24, 2), (7, 0, 24, 3), (8, 0, 24, 4), (9, 0, 24, 5), (10, 0, 24, 6), (11, 0, 24, 7), (12, 0, 24, 8), (13, 0, 24, 9), (16, 0, 24, 10), (17, 0, 13, 11), (18, 0, 14, 12), (19, 0, 14, 13), (20, 0, 14, 14), (21, 0, 200, 15), (22, 0, 40, 16), (23, 0, 200, 17), (24, 0, 24, 18), (25, 0, 24, 19), (27, 0, 72, 20), (28, 0, 8, 21), (29, 0, 24, 22), (30, 0, 8, 23)])
theorem zyw_X_when : zv_wf zy_X_when = true := by decide +kernel
theorem zye_X_when : zv_ek2 zy_X_when = true := by decide +kernel
def zf_X_when_l0_b (x1 : Int) (x2 : Int) (f3 : Int) (f7 : Int) (f9 : Int) (f11 : Int) (f13 : Int) (f23 : Int) (f25 : Int) (f27 : Int) (f28 : Int) (f29 : Int) (f30 : Int) (g1 : (Int → Int)) (g3 : (Int → Int)) (g5 : (Int → Int)) (g12 : (Int → Int)) (g13 : (Int → Int)) (g14 : (Int → Int)) (g15 : (Int → Int)) (g17 : (Int → Int)) (g21 : (Int → Int)) (rec : Int → Int → Int → Int → Int → Int → Int → Int → Int → Int → (Int → Int) → (Int → Int) → (Int → Int) → (Int → Int) → (Int → Int) → (Int → Int) → (Int → Int) → (Int → Int) → Option (Int × Int × Int × Int × Int × Int × Int × Int × Int × (Int → Int) × (Int → Int) × (Int → Int) × (Int → Int) × (Int → Int) × (Int → Int) × (Int → Int) × (Int → Int))) (x3 : Int) (x4 : Int) (f5 : Int) (f19 : Int) (f20 : Int) (f21 : Int) (f22 : Int) (f24 : Int) (f26 : Int) (f33 : Int) (g10 : (Int → Int)) (g11 : (Int → Int)) (g16 : (Int → Int)) (g18 : (Int → Int)) (g19 : (Int → Int)) (g20 : (Int → Int)) (g22 : (Int → Int)) (g23 : (Int → Int)) : Option (Int × Int × Int × Int × Int × Int × Int × Int × Int × (Int → Int) × (Int → Int) × (Int → Int) × (Int → Int) × (Int → Int) × (Int → Int) × (Int → Int) × (Int → Int)) := if x4 < 24 then ((zf_View_open f19 g10).bind fun r6 => ((zf_X_placeOf x1 x2).bind fun r7 => ((zf_X_canBeTold r7 f20 f21 x4 f7 f22 f3 f11 f13 f9 f23 r6.1 f24 f25 f26 f27 f28 f29 f30 f33 g11 g1 g3 g5 g12 g13 g14 g15 g16 g17 g18 r6.2 g19 g20 g21 g22 g23).bind fun r8 => (if r8.1 = 0 then (rec x3 (zi_w (x4 + 1)) x4 r8.2.2.2.2.1 r8.2.1 r8.2.2.1 r8.2.2.2.1 r8.2.2.2.2.2.1 r8.2.2.2.2.2.2.1 r8.2.2.2.2.2.2.2.1 r8.2.2.2.2.2.2.2.2.2.2.2.1 r8.2.2.2.2.2.2.2.2.1 r8.2.2.2.2.2.2.2.2.2.1 r8.2.2.2.2.2.2.2.2.2.2.1 r8.2.2.2.2.2.2.2.2.2.2.2.2.1 r8.2.2.2.2.2.2.2.2.2.2.2.2.2.1 r8.2.2.2.2.2.2.2.2.2.2.2.2.2.2.1 r8.2.2.2.2.2.2.2.2.2.2.2.2.2.2.2) else (rec (zi_or x3 (zi_shl 1 x4)) (zi_w (x4 + 1)) x4 r8.2.2.2.2.1 r8.2.1 r8.2.2.1 r8.2.2.2.1 r8.2.2.2.2.2.1 r8.2.2.2.2.2.2.1 r8.2.2.2.2.2.2.2.1 r8.2.2.2.2.2.2.2.2.2.2.2.1 r8.2.2.2.2.2.2.2.2.1 r8.2.2.2.2.2.2.2.2.2.1 r8.2.2.2.2.2.2.2.2.2.2.1 r8.2.2.2.2.2.2.2.2.2.2.2.2.1 r8.2.2.2.2.2.2.2.2.2.2.2.2.2.1 r8.2.2.2.2.2.2.2.2.2.2.2.2.2.2.1 r8.2.2.2.2.2.2.2.2.2.2.2.2.2.2.2))))) else (some (x3, f5, f19, f20, f21, f22, f24, f26, f33, g10, g11, g16, g18, g19, g20, g22, g23))
def zf_X_when_l0 (x1 : Int) (x2 : Int) (f3 : Int) (f7 : Int) (f9 : Int) (f11 : Int) (f13 : Int) (f23 : Int) (f25 : Int) (f27 : Int) (f28 : Int) (f29 : Int) (f30 : Int) (g1 : (Int → Int)) (g3 : (Int → Int)) (g5 : (Int → Int)) (g12 : (Int → Int)) (g13 : (Int → Int)) (g14 : (Int → Int)) (g15 : (Int → Int)) (g17 : (Int → Int)) (g21 : (Int → Int)) : Nat → Int → Int → Int → Int → Int → Int → Int → Int → Int → Int → (Int → Int) → (Int → Int) → (Int → Int) → (Int → Int) → (Int → Int) → (Int → Int) → (Int → Int) → (Int → Int) → Option (Int × Int × Int × Int × Int × Int × Int × Int × Int × (Int → Int) × (Int → Int) × (Int → Int) × (Int → Int) × (Int → Int) × (Int → Int) × (Int → Int) × (Int → Int))
  | 0, _, _, _, _, _, _, _, _, _, _, _, _, _, _, _, _, _, _ => none
  | n + 1, x3, x4, f5, f19, f20, f21, f22, f24, f26, f33, g10, g11, g16, g18, g19, g20, g22, g23 => zf_X_when_l0_b x1 x2 f3 f7 f9 f11 f13 f23 f25 f27 f28 f29 f30 g1 g3 g5 g12 g13 g14 g15 g17 g21 (zf_X_when_l0 x1 x2 f3 f7 f9 f11 f13 f23 f25 f27 f28 f29 f30 g1 g3 g5 g12 g13 g14 g15 g17 g21 n) x3 x4 f5 f19 f20 f21 f22 f24 f26 f33 g10 g11 g16 g18 g19 g20 g22 g23
def zf_X_when (x1 : Int) (x2 : Int) (f1 : Int) (f2 : Int) (f3 : Int) (f4 : Int) (f5 : Int) (f6 : Int) (f7 : Int) (f8 : Int) (f9 : Int) (f10 : Int) (f11 : Int) (f12 : Int) (f13 : Int) (f14 : Int) (f15 : Int) (f19 : Int) (f20 : Int) (f21 : Int) (f22 : Int) (f23 : Int) (f24 : Int) (f25 : Int) (f26 : Int) (f27 : Int) (f28 : Int) (f29 : Int) (f30 : Int) (f33 : Int) (g0 : (Int → Int)) (g1 : (Int → Int)) (g2 : (Int → Int)) (g3 : (Int → Int)) (g4 : (Int → Int)) (g5 : (Int → Int)) (g6 : (Int → Int)) (g7 : (Int → Int)) (g8 : (Int → Int)) (g9 : (Int → Int)) (g10 : (Int → Int)) (g11 : (Int → Int)) (g12 : (Int → Int)) (g13 : (Int → Int)) (g14 : (Int → Int)) (g15 : (Int → Int)) (g16 : (Int → Int)) (g17 : (Int → Int)) (g18 : (Int → Int)) (g19 : (Int → Int)) (g20 : (Int → Int)) (g21 : (Int → Int)) (g22 : (Int → Int)) (g23 : (Int → Int)) : Option (Int × Int × Int × Int × Int × Int × Int × Int × Int × Int × Int × Int × Int × Int × Int × (Int → Int) × (Int → Int) × (Int → Int) × (Int → Int) × (Int → Int) × (Int → Int) × (Int → Int) × (Int → Int) × (Int → Int) × (Int → Int) × (Int → Int) × (Int → Int) × (Int → Int)) := (zf_X_isPlace x1 x2).bind fun r1 => (if r1 = 0 then (some ((-1), f3, f5, f7, f9, f11, f13, f15, f19, f20, f21, f22, f24, f26, f33, g1, g3, g5, g7, g9, g10, g11, g16, g18, g19, g20, g22, g23)) else (if f1 = 0 then (some ((-1), f3, f5, f7, f9, f11, f13, f15, f19, f20, f21, f22, f24, f26, f33, g1, g3, g5, g7, g9, g10, g11, g16, g18, g19, g20, g22, g23)) else ((zf_Sky_copyFrom f2 f3 f4 f5 f6 f7 f8 f9 f10 f11 f12 f13 f14 f15 g0 g1 g2 g3 g4 g5 g6 g7 g8 g9).bind fun r4 => ((zf_X_when_l0 x1 x2 r4.1 r4.2.2.1 r4.2.2.2.1 r4.2.2.2.2.1 r4.2.2.2.2.2.1 f23 f25 f27 f28 f29 f30 r4.2.2.2.2.2.2.2.1 r4.2.2.2.2.2.2.2.2.1 r4.2.2.2.2.2.2.2.2.2.1 g12 g13 g14 g15 g17 g21 zi_fu 0 0 r4.2.1 f19 f20 f21 f22 f24 f26 f33 g10 g11 g16 g18 g19 g20 g22 g23).bind fun q10 => (some (q10.1, r4.1, q10.2.1, r4.2.2.1, r4.2.2.2.1, r4.2.2.2.2.1, r4.2.2.2.2.2.1, r4.2.2.2.2.2.2.1, q10.2.2.1, q10.2.2.2.1, q10.2.2.2.2.1, q10.2.2.2.2.2.1, q10.2.2.2.2.2.2.1, q10.2.2.2.2.2.2.2.1, q10.2.2.2.2.2.2.2.2.1, r4.2.2.2.2.2.2.2.1, r4.2.2.2.2.2.2.2.2.1, r4.2.2.2.2.2.2.2.2.2.1, r4.2.2.2.2.2.2.2.2.2.2.1, r4.2.2.2.2.2.2.2.2.2.2.2, q10.2.2.2.2.2.2.2.2.2.1, q10.2.2.2.2.2.2.2.2.2.2.1, q10.2.2.2.2.2.2.2.2.2.2.2.1, q10.2.2.2.2.2.2.2.2.2.2.2.2.1, q10.2.2.2.2.2.2.2.2.2.2.2.2.2.1, q10.2.2.2.2.2.2.2.2.2.2.2.2.2.2.1, q10.2.2.2.2.2.2.2.2.2.2.2.2.2.2.2.1, q10.2.2.2.2.2.2.2.2.2.2.2.2.2.2.2.2))))))
theorem zd124_0 : decode zxm124.2.1 0 = .ok (.iload_n 1, 1) := by decide +kernel
theorem zd124_1 : decode zxm124.2.1 1 = .ok (.iload_n 2, 1) := by decide +kernel
theorem zd124_2 : decode zxm124.2.1 2 = .ok (.invokestatic 130, 3) := by decide +kernel
theorem zd124_5 : decode zxm124.2.1 5 = .ok (.ifCond .eq 13, 3) := by decide +kernel
theorem zd124_8 : decode zxm124.2.1 8 = .ok (.aload_n 0, 1) := by decide +kernel
theorem zd124_9 : decode zxm124.2.1 9 = .ok (.getfield 69, 3) := by decide +kernel
theorem zd124_12 : decode zxm124.2.1 12 = .ok (.getfield 253, 3) := by decide +kernel
theorem zd124_15 : decode zxm124.2.1 15 = .ok (.ifCond .ne 5, 3) := by decide +kernel
theorem zd124_18 : decode zxm124.2.1 18 = .ok (.iconst (-1), 1) := by decide +kernel
theorem zd124_19 : decode zxm124.2.1 19 = .ok (.ireturn, 1) := by decide +kernel
theorem zd124_20 : decode zxm124.2.1 20 = .ok (.aload_n 0, 1) := by decide +kernel
theorem zd124_21 : decode zxm124.2.1 21 = .ok (.getfield 19, 3) := by decide +kernel
theorem zd124_24 : decode zxm124.2.1 24 = .ok (.aload_n 0, 1) := by decide +kernel
theorem zd124_25 : decode zxm124.2.1 25 = .ok (.getfield 10, 3) := by decide +kernel
theorem zd124_28 : decode zxm124.2.1 28 = .ok (.invokevirtual 273, 3) := by decide +kernel
theorem zd124_31 : decode zxm124.2.1 31 = .ok (.iconst 0, 1) := by decide +kernel
theorem zd124_32 : decode zxm124.2.1 32 = .ok (.istore_n 3, 1) := by decide +kernel
theorem zd124_33 : decode zxm124.2.1 33 = .ok (.iconst 0, 1) := by decide +kernel
theorem zd124_34 : decode zxm124.2.1 34 = .ok (.istore 4, 2) := by decide +kernel
theorem zd124_36 : decode zxm124.2.1 36 = .ok (.iload 4, 2) := by decide +kernel
theorem zd124_38 : decode zxm124.2.1 38 = .ok (.bipush 24, 2) := by decide +kernel
theorem zd124_40 : decode zxm124.2.1 40 = .ok (.if_icmp .ge 52, 3) := by decide +kernel
theorem zd124_43 : decode zxm124.2.1 43 = .ok (.aload_n 0, 1) := by decide +kernel
theorem zd124_44 : decode zxm124.2.1 44 = .ok (.getfield 19, 3) := by decide +kernel
theorem zd124_47 : decode zxm124.2.1 47 = .ok (.iload 4, 2) := by decide +kernel
theorem zd124_49 : decode zxm124.2.1 49 = .ok (.putfield 157, 3) := by decide +kernel
theorem zd124_52 : decode zxm124.2.1 52 = .ok (.aload_n 0, 1) := by decide +kernel
theorem zd124_53 : decode zxm124.2.1 53 = .ok (.getfield 81, 3) := by decide +kernel
theorem zd124_56 : decode zxm124.2.1 56 = .ok (.aload_n 0, 1) := by decide +kernel
theorem zd124_57 : decode zxm124.2.1 57 = .ok (.getfield 19, 3) := by decide +kernel
theorem zd124_60 : decode zxm124.2.1 60 = .ok (.aload_n 0, 1) := by decide +kernel
theorem zd124_61 : decode zxm124.2.1 61 = .ok (.getfield 46, 3) := by decide +kernel
theorem zd124_64 : decode zxm124.2.1 64 = .ok (.invokevirtual 211, 3) := by decide +kernel
theorem zd124_67 : decode zxm124.2.1 67 = .ok (.aload_n 0, 1) := by decide +kernel
theorem zd124_68 : decode zxm124.2.1 68 = .ok (.iload_n 1, 1) := by decide +kernel
theorem zd124_69 : decode zxm124.2.1 69 = .ok (.iload_n 2, 1) := by decide +kernel
theorem zd124_70 : decode zxm124.2.1 70 = .ok (.invokestatic 170, 3) := by decide +kernel
theorem zd124_73 : decode zxm124.2.1 73 = .ok (.invokevirtual 270, 3) := by decide +kernel
theorem zd124_76 : decode zxm124.2.1 76 = .ok (.ifCond .eq 10, 3) := by decide +kernel
theorem zd124_79 : decode zxm124.2.1 79 = .ok (.iload_n 3, 1) := by decide +kernel
theorem zd124_80 : decode zxm124.2.1 80 = .ok (.iconst 1, 1) := by decide +kernel
theorem zd124_81 : decode zxm124.2.1 81 = .ok (.iload 4, 2) := by decide +kernel
theorem zd124_83 : decode zxm124.2.1 83 = .ok (.ishl, 1) := by decide +kernel
theorem zd124_84 : decode zxm124.2.1 84 = .ok (.ior, 1) := by decide +kernel
theorem zd124_85 : decode zxm124.2.1 85 = .ok (.istore_n 3, 1) := by decide +kernel
theorem zd124_86 : decode zxm124.2.1 86 = .ok (.iinc 4 1, 3) := by decide +kernel
theorem zd124_89 : decode zxm124.2.1 89 = .ok (.goto (-53), 3) := by decide +kernel
theorem zd124_92 : decode zxm124.2.1 92 = .ok (.iload_n 3, 1) := by decide +kernel
theorem zd124_93 : decode zxm124.2.1 93 = .ok (.ireturn, 1) := by decide +kernel
theorem zt_X_when {x1 : Int} {x2 : Int} {f1 : Int} {f2 : Int} {f3 : Int} {f4 : Int} {f5 : Int} {f6 : Int} {f7 : Int} {f8 : Int} {f9 : Int} {f10 : Int} {f11 : Int} {f12 : Int} {f13 : Int} {f14 : Int} {f15 : Int} {f19 : Int} {f20 : Int} {f21 : Int} {f22 : Int} {f23 : Int} {f24 : Int} {f25 : Int} {f26 : Int} {f27 : Int} {f28 : Int} {f29 : Int} {f30 : Int} {f33 : Int} {g0 : (Int → Int)} {g1 : (Int → Int)} {g2 : (Int → Int)} {g3 : (Int → Int)} {g4 : (Int → Int)} {g5 : (Int → Int)} {g6 : (Int → Int)} {g7 : (Int → Int)} {g8 : (Int → Int)} {g9 : (Int → Int)} {g10 : (Int → Int)} {g11 : (Int → Int)} {g12 : (Int → Int)} {g13 : (Int → Int)} {g14 : (Int → Int)} {g15 : (Int → Int)} {g16 : (Int → Int)} {g17 : (Int → Int)} {g18 : (Int → Int)} {g19 : (Int → Int)} {g20 : (Int → Int)} {g21 : (Int → Int)} {g22 : (Int → Int)} {g23 : (Int → Int)} {o : Int × Int × Int × Int × Int × Int × Int × Int × Int × Int × Int × Int × Int × Int × Int × (Int → Int) × (Int → Int) × (Int → Int) × (Int → Int) × (Int → Int) × (Int → Int) × (Int → Int) × (Int → Int) × (Int → Int) × (Int → Int) × (Int → Int) × (Int → Int) × (Int → Int)} (h : zf_X_when x1 x2 f1 f2 f3 f4 f5 f6 f7 f8 f9 f10 f11 f12 f13 f14 f15 f19 f20 f21 f22 f23 f24 f25 f26 f27 f28 f29 f30 f33 g0 g1 g2 g3 g4 g5 g6 g7 g8 g9 g10 g11 g12 g13 g14 g15 g16 g17 g18 g19 g20 g21 g22 g23 = some o) : zv_Fn z_TB z_cl z_KX zy_X_when zxm124 (14, 840) [.inr 0, .inl x1, .inl x2] [.inr 1, .inl f1, .inl f2, .inl f3, .inl f4, .inl f5, .inl f6, .inl f7, .inl f8, .inl f9, .inl f10, .inl f11, .inl f12, .inl f13, .inl f14, .inl f15, .inr 15, .inr 1000, .inr 1000, .inl f19, .inl f20, .inl f21, .inl f22, .inl f23, .inl f24, .inl f25, .inl f26, .inl f27, .inl f28, .inl f29, .inl f30, .inr 1000, .inr 1000, .inl f33] [g0, g1, g2, g3, g4, g5, g6, g7, g8, g9, g10, g11, g12, g13, g14, g15, g16, g17, g18, g19, g20, g21, g22, g23] (some o.1) [.inr 1, .inl f1, .inl f2, .inl o.2.1, .inl f4, .inl o.2.2.1, .inl f6, .inl o.2.2.2.1, .inl f8, .inl o.2.2.2.2.1, .inl f10, .inl o.2.2.2.2.2.1, .inl f12, .inl o.2.2.2.2.2.2.1, .inl f14, .inl o.2.2.2.2.2.2.2.1, .inr 15, .inr 1000, .inr 1000, .inl o.2.2.2.2.2.2.2.2.1, .inl o.2.2.2.2.2.2.2.2.2.1, .inl o.2.2.2.2.2.2.2.2.2.2.1, .inl o.2.2.2.2.2.2.2.2.2.2.2.1, .inl f23, .inl o.2.2.2.2.2.2.2.2.2.2.2.2.1, .inl f25, .inl o.2.2.2.2.2.2.2.2.2.2.2.2.2.1, .inl f27, .inl f28, .inl f29, .inl f30, .inr 1000, .inr 1000, .inl o.2.2.2.2.2.2.2.2.2.2.2.2.2.2.1] [g0, o.2.2.2.2.2.2.2.2.2.2.2.2.2.2.2.1, g2, o.2.2.2.2.2.2.2.2.2.2.2.2.2.2.2.2.1, g4, o.2.2.2.2.2.2.2.2.2.2.2.2.2.2.2.2.2.1, g6, o.2.2.2.2.2.2.2.2.2.2.2.2.2.2.2.2.2.2.1, g8, o.2.2.2.2.2.2.2.2.2.2.2.2.2.2.2.2.2.2.2.1, o.2.2.2.2.2.2.2.2.2.2.2.2.2.2.2.2.2.2.2.2.1, o.2.2.2.2.2.2.2.2.2.2.2.2.2.2.2.2.2.2.2.2.2.1, g12, g13, g14, g15, o.2.2.2.2.2.2.2.2.2.2.2.2.2.2.2.2.2.2.2.2.2.2.1, g17, o.2.2.2.2.2.2.2.2.2.2.2.2.2.2.2.2.2.2.2.2.2.2.2.1, o.2.2.2.2.2.2.2.2.2.2.2.2.2.2.2.2.2.2.2.2.2.2.2.2.1, o.2.2.2.2.2.2.2.2.2.2.2.2.2.2.2.2.2.2.2.2.2.2.2.2.2.1, g21, o.2.2.2.2.2.2.2.2.2.2.2.2.2.2.2.2.2.2.2.2.2.2.2.2.2.2.1, o.2.2.2.2.2.2.2.2.2.2.2.2.2.2.2.2.2.2.2.2.2.2.2.2.2.2.2] := zv_meth (K := (z_KF0, z_KC0, z_KL0, z_KT0, [], [], [], none)) (FT := z_FT) (MT := z_MT) (n := 3) zxp124 (z_ks0 _ (fun _ h => List.mem_cons_of_mem _ h) _ _ _ _ (fun j r h _ => by cases h)) (fun _ _ => zs_KX_p) zyw_X_when (fun va F G h => by obtain ⟨rfl, _⟩ := h; rfl) (fun va F G h => by obtain ⟨rfl, _⟩ := h; rfl) rfl fun good va F G hB hret hvret hP => by
  obtain ⟨rfl, rfl, rfl⟩ := hP
  have l0 : ∀ (n : Nat) (x1 : Int) (x2 : Int) (x3 : Int) (x4 : Int) (f3 : Int) (f5 : Int) (f7 : Int) (f9 : Int) (f11 : Int) (f13 : Int) (f15 : Int) (f19 : Int) (f20 : Int) (f21 : Int) (f22 : Int) (f24 : Int) (f26 : Int) (f33 : Int) (g1 : (Int → Int)) (g3 : (Int → Int)) (g5 : (Int → Int)) (g7 : (Int → Int)) (g9 : (Int → Int)) (g10 : (Int → Int)) (g11 : (Int → Int)) (g16 : (Int → Int)) (g18 : (Int → Int)) (g19 : (Int → Int)) (g20 : (Int → Int)) (g22 : (Int → Int)) (g23 : (Int → Int)) (q : Int × Int × Int × Int × Int × Int × Int × Int × Int × (Int → Int) × (Int → Int) × (Int → Int) × (Int → Int) × (Int → Int) × (Int → Int) × (Int → Int) × (Int → Int)), zf_X_when_l0 x1 x2 f3 f7 f9 f11 f13 f23 f25 f27 f28 f29 f30 g1 g3 g5 g12 g13 g14 g15 g17 g21 n x3 x4 f5 f19 f20 f21 f22 f24 f26 f33 g10 g11 g16 g18 g19 g20 g22 g23 = some q → (good 92 [.inr 1000, .inr 1000, .inr 1000, .inl q.1, .inr 1000] [] [.inr 1, .inl f1, .inl f2, .inl f3, .inl f4, .inl q.2.1, .inl f6, .inl f7, .inl f8, .inl f9, .inl f10, .inl f11, .inl f12, .inl f13, .inl f14, .inl f15, .inr 15, .inr 1000, .inr 1000, .inl q.2.2.1, .inl q.2.2.2.1, .inl q.2.2.2.2.1, .inl q.2.2.2.2.2.1, .inl f23, .inl q.2.2.2.2.2.2.1, .inl f25, .inl q.2.2.2.2.2.2.2.1, .inl f27, .inl f28, .inl f29, .inl f30, .inr 1000, .inr 1000, .inl q.2.2.2.2.2.2.2.2.1] [g0, g1, g2, g3, g4, g5, g6, g7, g8, g9, q.2.2.2.2.2.2.2.2.2.1, q.2.2.2.2.2.2.2.2.2.2.1, g12, g13, g14, g15, q.2.2.2.2.2.2.2.2.2.2.2.1, g17, q.2.2.2.2.2.2.2.2.2.2.2.2.1, q.2.2.2.2.2.2.2.2.2.2.2.2.2.1, q.2.2.2.2.2.2.2.2.2.2.2.2.2.2.1, g21, q.2.2.2.2.2.2.2.2.2.2.2.2.2.2.2.1, q.2.2.2.2.2.2.2.2.2.2.2.2.2.2.2.2]) → good 36 [.inr 0, .inl x1, .inl x2, .inl x3, .inl x4] [] [.inr 1, .inl f1, .inl f2, .inl f3, .inl f4, .inl f5, .inl f6, .inl f7, .inl f8, .inl f9, .inl f10, .inl f11, .inl f12, .inl f13, .inl f14, .inl f15, .inr 15, .inr 1000, .inr 1000, .inl f19, .inl f20, .inl f21, .inl f22, .inl f23, .inl f24, .inl f25, .inl f26, .inl f27, .inl f28, .inl f29, .inl f30, .inr 1000, .inr 1000, .inl f33] [g0, g1, g2, g3, g4, g5, g6, g7, g8, g9, g10, g11, g12, g13, g14, g15, g16, g17, g18, g19, g20, g21, g22, g23] := by
    intro n
    induction n with
    | zero => intro x1 x2 x3 x4 f3 f5 f7 f9 f11 f13 f15 f19 f20 f21 f22 f24 f26 f33 g1 g3 g5 g7 g9 g10 g11 g16 g18 g19 g20 g22 g23 q h; exact absurd (show none = some q from h) (fun h => by cases h)
    | succ n ih =>
      intro x1 x2 x3 x4 f3 f5 f7 f9 f11 f13 f15 f19 f20 f21 f22 f24 f26 f33 g1 g3 g5 g7 g9 g10 g11 g16 g18 g19 g20 g22 g23 q h hK
      replace h : zf_X_when_l0_b x1 x2 f3 f7 f9 f11 f13 f23 f25 f27 f28 f29 f30 g1 g3 g5 g12 g13 g14 g15 g17 g21 (zf_X_when_l0 x1 x2 f3 f7 f9 f11 f13 f23 f25 f27 f28 f29 f30 g1 g3 g5 g12 g13 g14 g15 g17 g21 n) x3 x4 f5 f19 f20 f21 f22 f24 f26 f33 g10 g11 g16 g18 g19 g20 g22 g23 = some q := h
      unfold zf_X_when_l0_b at h
      refine zv_ild hB zd124_36 rfl rfl ?_
      refine zv_con hB zd124_38 rfl ?_
      refine zv_cge hB zd124_40 rfl (fun hc5 => ?_) (fun hc5 => ?_)
      · rw [if_neg (Int.not_lt.mpr hc5)] at h
        have hq := Option.some.inj h
        subst hq
        refine zv_wk hB (L' := [.inr 1000, .inr 1000, .inr 1000, .inl x3, .inr 1000]) (F' := [.inr 1, .inl f1, .inl f2, .inl f3, .inl f4, .inl f5, .inl f6, .inl f7, .inl f8, .inl f9, .inl f10, .inl f11, .inl f12, .inl f13, .inl f14, .inl f15, .inr 15, .inr 1000, .inr 1000, .inl f19, .inl f20, .inl f21, .inl f22, .inl f23, .inl f24, .inl f25, .inl f26, .inl f27, .inl f28, .inl f29, .inl f30, .inr 1000, .inr 1000, .inl f33]) ⟨fun (h : zv_is (.inr 1000)) => (Nat.lt_irrefl 1000 h).elim, fun (h : zv_is (.inr 1000)) => (Nat.lt_irrefl 1000 h).elim, fun (h : zv_is (.inr 1000)) => (Nat.lt_irrefl 1000 h).elim, fun _ => rfl, fun (h : zv_is (.inr 1000)) => (Nat.lt_irrefl 1000 h).elim, trivial⟩ ⟨fun _ => rfl, fun _ => rfl, fun _ => rfl, fun _ => rfl, fun _ => rfl, fun _ => rfl, fun _ => rfl, fun _ => rfl, fun _ => rfl, fun _ => rfl, fun _ => rfl, fun _ => rfl, fun _ => rfl, fun _ => rfl, fun _ => rfl, fun _ => rfl, fun _ => rfl, fun (h : zv_is (.inr 1000)) => (Nat.lt_irrefl 1000 h).elim, fun (h : zv_is (.inr 1000)) => (Nat.lt_irrefl 1000 h).elim, fun _ => rfl, fun _ => rfl, fun _ => rfl, fun _ => rfl, fun _ => rfl, fun _ => rfl, fun _ => rfl, fun _ => rfl, fun _ => rfl, fun _ => rfl, fun _ => rfl, fun _ => rfl, fun (h : zv_is (.inr 1000)) => (Nat.lt_irrefl 1000 h).elim, fun (h : zv_is (.inr 1000)) => (Nat.lt_irrefl 1000 h).elim, fun _ => rfl, trivial⟩ ?_
        exact hK
      · rw [if_pos hc5] at h
        refine zv_ald hB zd124_43 rfl rfl rfl ?_
        refine zv_getr hB zd124_44 rfl ?_
        refine zv_ild hB zd124_47 rfl rfl ?_
        refine zv_putf hB zd124_49 rfl rfl (fun h => by cases h) rfl ?_
        refine zv_ald hB zd124_52 rfl rfl rfl ?_
        refine zv_getr hB zd124_53 rfl ?_
        refine zv_ald hB zd124_56 rfl rfl rfl ?_
        refine zv_getr hB zd124_57 rfl ?_
        refine zv_ald hB zd124_60 rfl rfl rfl ?_
        refine zv_getq hB zd124_61 rfl rfl rfl ?_
        obtain ⟨r6, hr6, h⟩ := zi_bind h
        refine zv_cv hB (zv_emq (va2 := [.inr 14, .inr 2, .inr 15]) (F := [.inr 1, .inl f1, .inl f2, .inl f3, .inl f4, .inl x4, .inl f6, .inl f7, .inl f8, .inl f9, .inl f10, .inl f11, .inl f12, .inl f13, .inl f14, .inl f15, .inr 15, .inr 1000, .inr 1000, .inl f19, .inl f20, .inl f21, .inl f22, .inl f23, .inl f24, .inl f25, .inl f26, .inl f27, .inl f28, .inl f29, .inl f30, .inr 1000, .inr 1000, .inl f33]) (F' := [.inr 1, .inl f1, .inl f2, .inl f3, .inl f4, .inl x4, .inl f6, .inl f7, .inl f8, .inl f9, .inl f10, .inl f11, .inl f12, .inl f13, .inl f14, .inl f15, .inr 15, .inr 2, .inr 15, .inl r6.1, .inl f20, .inl f21, .inl f22, .inl f23, .inl f24, .inl f25, .inl f26, .inl f27, .inl f28, .inl f29, .inl f30, .inr 1000, .inr 1000, .inl f33]) (G := [g0, g1, g2, g3, g4, g5, g6, g7, g8, g9, g10, g11, g12, g13, g14, g15, g16, g17, g18, g19, g20, g21, g22, g23]) (G' := [g0, g1, g2, g3, g4, g5, g6, g7, g8, g9, r6.2, g11, g12, g13, g14, g15, g16, g17, g18, g19, g20, g21, g22, g23]) (ρ := [14, 2, 15, 16]) (φ := [17, 18, 19]) (ψ := [10]) [none, none, none, none, none, none, none, none, none, none, none, none, none, none, none, none, none, some 0, some 1, some 2, none, none, none, none, none, none, none, none, none, none, none, none, none, none] [none, none, none, none, none, none, none, none, none, none, some 0, none, none, none, none, none, none, none, none, none, none, none, none, none] zyw_View_open zyw_X_when zye_X_when (by decide +kernel) (zt_View_open hr6) ⟨⟨_, rfl, fun (h : zv_is (.inr 1000)) => (Nat.lt_irrefl 1000 h).elim⟩, ⟨_, rfl, fun (h : zv_is (.inr 1000)) => (Nat.lt_irrefl 1000 h).elim⟩, ⟨_, rfl, fun _ => rfl⟩, trivial⟩ ⟨rfl, trivial⟩ rfl rfl rfl rfl rfl rfl rfl) zd124_64 zxt84 rfl (by decide) (by decide) rfl ?_
        refine zv_ald hB zd124_67 rfl rfl rfl ?_
        refine zv_ild hB zd124_68 rfl rfl ?_
        refine zv_ild hB zd124_69 rfl rfl ?_
        obtain ⟨r7, hr7, h⟩ := zi_bind h
        refine zv_cs hB (zv_emq (va2 := [.inl x1, .inl x2]) (F := [.inr 1, .inl f1, .inl f2, .inl f3, .inl f4, .inl x4, .inl f6, .inl f7, .inl f8, .inl f9, .inl f10, .inl f11, .inl f12, .inl f13, .inl f14, .inl f15, .inr 15, .inr 2, .inr 15, .inl r6.1, .inl f20, .inl f21, .inl f22, .inl f23, .inl f24, .inl f25, .inl f26, .inl f27, .inl f28, .inl f29, .inl f30, .inr 1000, .inr 1000, .inl f33]) (F' := [.inr 1, .inl f1, .inl f2, .inl f3, .inl f4, .inl x4, .inl f6, .inl f7, .inl f8, .inl f9, .inl f10, .inl f11, .inl f12, .inl f13, .inl f14, .inl f15, .inr 15, .inr 2, .inr 15, .inl r6.1, .inl f20, .inl f21, .inl f22, .inl f23, .inl f24, .inl f25, .inl f26, .inl f27, .inl f28, .inl f29, .inl f30, .inr 1000, .inr 1000, .inl f33]) (G := [g0, g1, g2, g3, g4, g5, g6, g7, g8, g9, r6.2, g11, g12, g13, g14, g15, g16, g17, g18, g19, g20, g21, g22, g23]) (G' := [g0, g1, g2, g3, g4, g5, g6, g7, g8, g9, r6.2, g11, g12, g13, g14, g15, g16, g17, g18, g19, g20, g21, g22, g23]) (ρ := []) (φ := []) (ψ := []) [none, none, none, none, none, none, none, none, none, none, none, none, none, none, none, none, none, none, none, none, none, none, none, none, none, none, none, none, none, none, none, none, none, none] [none, none, none, none, none, none, none, none, none, none, none, none, none, none, none, none, none, none, none, none, none, none, none, none] zyw_X_placeOf zyw_X_when zye_X_when (by decide +kernel) (zt_X_placeOf hr7) trivial trivial rfl rfl rfl rfl rfl rfl rfl) zd124_70 zxt24 rfl (by decide) (by decide) rfl ?_
        obtain ⟨r8, hr8, h⟩ := zi_bind h
        refine zv_cv hB (zv_emq (va2 := [.inr 0, .inl r7]) (F := [.inr 1, .inl f1, .inl f2, .inl f3, .inl f4, .inl x4, .inl f6, .inl f7, .inl f8, .inl f9, .inl f10, .inl f11, .inl f12, .inl f13, .inl f14, .inl f15, .inr 15, .inr 2, .inr 15, .inl r6.1, .inl f20, .inl f21, .inl f22, .inl f23, .inl f24, .inl f25, .inl f26, .inl f27, .inl f28, .inl f29, .inl f30, .inr 1000, .inr 1000, .inl f33]) (F' := [.inr 1, .inl f1, .inl f2, .inl f3, .inl f4, .inl x4, .inl f6, .inl f7, .inl f8, .inl f9, .inl f10, .inl f11, .inl f12, .inl f13, .inl f14, .inl f15, .inr 15, .inr 2, .inr 15, .inl r8.2.2.2.2.1, .inl r8.2.1, .inl r8.2.2.1, .inl r8.2.2.2.1, .inl f23, .inl r8.2.2.2.2.2.1, .inl f25, .inl r8.2.2.2.2.2.2.1, .inl f27, .inl f28, .inl f29, .inl f30, .inr 1000, .inr 1000, .inl r8.2.2.2.2.2.2.2.1]) (G := [g0, g1, g2, g3, g4, g5, g6, g7, g8, g9, r6.2, g11, g12, g13, g14, g15, g16, g17, g18, g19, g20, g21, g22, g23]) (G' := [g0, g1, g2, g3, g4, g5, g6, g7, g8, g9, r8.2.2.2.2.2.2.2.2.2.2.2.1, r8.2.2.2.2.2.2.2.2.1, g12, g13, g14, g15, r8.2.2.2.2.2.2.2.2.2.1, g17, r8.2.2.2.2.2.2.2.2.2.2.1, r8.2.2.2.2.2.2.2.2.2.2.2.2.1, r8.2.2.2.2.2.2.2.2.2.2.2.2.2.1, g21, r8.2.2.2.2.2.2.2.2.2.2.2.2.2.2.1, r8.2.2.2.2.2.2.2.2.2.2.2.2.2.2.2]) (ρ := [0, 14, 15, 17, 2, 5, 7, 9, 18, 19, 20, 21, 22, 23, 1, 24, 16, 25, 26, 27, 28, 29, 30]) (φ := [18, 17, 20, 21, 5, 7, 22, 3, 11, 13, 9, 23, 19, 24, 25, 26, 27, 0, 28, 29, 30, 31, 32, 33]) (ψ := [11, 1, 3, 5, 12, 13, 14, 15, 16, 17, 18, 10, 19, 20, 21, 22, 23]) [some 17, none, none, some 7, none, some 4, none, some 5, none, some 10, none, some 8, none, some 9, none, none, none, some 1, some 0, some 12, some 2, some 3, some 6, some 11, some 13, some 14, some 15, some 16, some 18, some 19, some 20, some 21, some 22, some 23] [none, some 1, none, some 2, none, some 3, none, none, none, none, some 11, some 0, some 4, some 5, some 6, some 7, some 8, some 9, some 10, some 12, some 13, some 14, some 15, some 16] zyw_X_canBeTold zyw_X_when zye_X_when (by decide +kernel) (zt_X_canBeTold hr8) ⟨⟨_, rfl, fun _ => rfl⟩, ⟨_, rfl, fun _ => rfl⟩, ⟨_, rfl, fun _ => rfl⟩, ⟨_, rfl, fun _ => rfl⟩, ⟨_, rfl, fun _ => rfl⟩, ⟨_, rfl, fun _ => rfl⟩, ⟨_, rfl, fun _ => rfl⟩, ⟨_, rfl, fun _ => rfl⟩, ⟨_, rfl, fun _ => rfl⟩, ⟨_, rfl, fun _ => rfl⟩, ⟨_, rfl, fun _ => rfl⟩, ⟨_, rfl, fun _ => rfl⟩, ⟨_, rfl, fun _ => rfl⟩, ⟨_, rfl, fun _ => rfl⟩, ⟨_, rfl, fun _ => rfl⟩, ⟨_, rfl, fun _ => rfl⟩, ⟨_, rfl, fun _ => rfl⟩, ⟨_, rfl, fun _ => rfl⟩, ⟨_, rfl, fun _ => rfl⟩, ⟨_, rfl, fun _ => rfl⟩, ⟨_, rfl, fun _ => rfl⟩, ⟨_, rfl, fun (h : zv_is (.inr 1000)) => (Nat.lt_irrefl 1000 h).elim⟩, ⟨_, rfl, fun (h : zv_is (.inr 1000)) => (Nat.lt_irrefl 1000 h).elim⟩, ⟨_, rfl, fun _ => rfl⟩, trivial⟩ ⟨rfl, rfl, rfl, rfl, rfl, rfl, rfl, rfl, rfl, rfl, rfl, rfl, rfl, rfl, rfl, rfl, rfl, trivial⟩ rfl rfl rfl rfl rfl rfl rfl) zd124_73 zxt123 rfl (by decide) (by decide) rfl ?_
        refine zv_zeq hB zd124_76 rfl (fun hc9 => ?_) (fun hc9 => ?_)
        · rw [if_pos hc9] at h
          refine zv_iincw hB zd124_86 rfl rfl ?_
          refine zv_goto hB zd124_89 rfl ?_
          refine zv_wk hB (L' := [.inr 0, .inl x1, .inl x2, .inl x3, .inl (zi_w (x4 + 1))]) (F' := [.inr 1, .inl f1, .inl f2, .inl f3, .inl f4, .inl x4, .inl f6, .inl f7, .inl f8, .inl f9, .inl f10, .inl f11, .inl f12, .inl f13, .inl f14, .inl f15, .inr 15, .inr 1000, .inr 1000, .inl r8.2.2.2.2.1, .inl r8.2.1, .inl r8.2.2.1, .inl r8.2.2.2.1, .inl f23, .inl r8.2.2.2.2.2.1, .inl f25, .inl r8.2.2.2.2.2.2.1, .inl f27, .inl f28, .inl f29, .inl f30, .inr 1000, .inr 1000, .inl r8.2.2.2.2.2.2.2.1]) ⟨fun _ => rfl, fun _ => rfl, fun _ => rfl, fun _ => rfl, fun _ => rfl, trivial⟩ ⟨fun _ => rfl, fun _ => rfl, fun _ => rfl, fun _ => rfl, fun _ => rfl, fun _ => rfl, fun _ => rfl, fun _ => rfl, fun _ => rfl, fun _ => rfl, fun _ => rfl, fun _ => rfl, fun _ => rfl, fun _ => rfl, fun _ => rfl, fun _ => rfl, fun _ => rfl, fun (h : zv_is (.inr 1000)) => (Nat.lt_irrefl 1000 h).elim, fun (h : zv_is (.inr 1000)) => (Nat.lt_irrefl 1000 h).elim, fun _ => rfl, fun _ => rfl, fun _ => rfl, fun _ => rfl, fun _ => rfl, fun _ => rfl, fun _ => rfl, fun _ => rfl, fun _ => rfl, fun _ => rfl, fun _ => rfl, fun _ => rfl, fun (h : zv_is (.inr 1000)) => (Nat.lt_irrefl 1000 h).elim, fun (h : zv_is (.inr 1000)) => (Nat.lt_irrefl 1000 h).elim, fun _ => rfl, trivial⟩ ?_
          exact ih _ _ _ _ _ _ _ _ _ _ _ _ _ _ _ _ _ _ _ _ _ _ _ _ _ _ _ _ _ _ _ q h hK
        · rw [if_neg hc9] at h
          refine zv_ild hB zd124_79 rfl rfl ?_
          refine zv_con hB zd124_80 rfl ?_
          refine zv_ild hB zd124_81 rfl rfl ?_
          refine zv_shlw hB zd124_83 ?_
          refine zv_orw hB zd124_84 ?_
          refine zv_ist hB zd124_85 rfl rfl rfl ?_
          refine zv_iincw hB zd124_86 rfl rfl ?_
          refine zv_goto hB zd124_89 rfl ?_
          refine zv_wk hB (L' := [.inr 0, .inl x1, .inl x2, .inl (zi_or x3 (zi_shl 1 x4)), .inl (zi_w (x4 + 1))]) (F' := [.inr 1, .inl f1, .inl f2, .inl f3, .inl f4, .inl x4, .inl f6, .inl f7, .inl f8, .inl f9, .inl f10, .inl f11, .inl f12, .inl f13, .inl f14, .inl f15, .inr 15, .inr 1000, .inr 1000, .inl r8.2.2.2.2.1, .inl r8.2.1, .inl r8.2.2.1, .inl r8.2.2.2.1, .inl f23, .inl r8.2.2.2.2.2.1, .inl f25, .inl r8.2.2.2.2.2.2.1, .inl f27, .inl f28, .inl f29, .inl f30, .inr 1000, .inr 1000, .inl r8.2.2.2.2.2.2.2.1]) ⟨fun _ => rfl, fun _ => rfl, fun _ => rfl, fun _ => rfl, fun _ => rfl, trivial⟩ ⟨fun _ => rfl, fun _ => rfl, fun _ => rfl, fun _ => rfl, fun _ => rfl, fun _ => rfl, fun _ => rfl, fun _ => rfl, fun _ => rfl, fun _ => rfl, fun _ => rfl, fun _ => rfl, fun _ => rfl, fun _ => rfl, fun _ => rfl, fun _ => rfl, fun _ => rfl, fun (h : zv_is (.inr 1000)) => (Nat.lt_irrefl 1000 h).elim, fun (h : zv_is (.inr 1000)) => (Nat.lt_irrefl 1000 h).elim, fun _ => rfl, fun _ => rfl, fun _ => rfl, fun _ => rfl, fun _ => rfl, fun _ => rfl, fun _ => rfl, fun _ => rfl, fun _ => rfl, fun _ => rfl, fun _ => rfl, fun _ => rfl, fun (h : zv_is (.inr 1000)) => (Nat.lt_irrefl 1000 h).elim, fun (h : zv_is (.inr 1000)) => (Nat.lt_irrefl 1000 h).elim, fun _ => rfl, trivial⟩ ?_
          exact ih _ _ _ _ _ _ _ _ _ _ _ _ _ _ _ _ _ _ _ _ _ _ _ _ _ _ _ _ _ _ _ q h hK
  unfold zf_X_when at h
  refine zv_ild hB zd124_0 rfl rfl ?_
  refine zv_ild hB zd124_1 rfl rfl ?_
  obtain ⟨r1, hr1, h⟩ := zi_bind h
  refine zv_cs hB (zv_emq (va2 := [.inl x1, .inl x2]) (F := [.inr 1, .inl f1, .inl f2, .inl f3, .inl f4, .inl f5, .inl f6, .inl f7, .inl f8, .inl f9, .inl f10, .inl f11, .inl f12, .inl f13, .inl f14, .inl f15, .inr 15, .inr 1000, .inr 1000, .inl f19, .inl f20, .inl f21, .inl f22, .inl f23, .inl f24, .inl f25, .inl f26, .inl f27, .inl f28, .inl f29, .inl f30, .inr 1000, .inr 1000, .inl f33]) (F' := [.inr 1, .inl f1, .inl f2, .inl f3, .inl f4, .inl f5, .inl f6, .inl f7, .inl f8, .inl f9, .inl f10, .inl f11, .inl f12, .inl f13, .inl f14, .inl f15, .inr 15, .inr 1000, .inr 1000, .inl f19, .inl f20, .inl f21, .inl f22, .inl f23, .inl f24, .inl f25, .inl f26, .inl f27, .inl f28, .inl f29, .inl f30, .inr 1000, .inr 1000, .inl f33]) (G := [g0, g1, g2, g3, g4, g5, g6, g7, g8, g9, g10, g11, g12, g13, g14, g15, g16, g17, g18, g19, g20, g21, g22, g23]) (G' := [g0, g1, g2, g3, g4, g5, g6, g7, g8, g9, g10, g11, g12, g13, g14, g15, g16, g17, g18, g19, g20, g21, g22, g23]) (ρ := []) (φ := []) (ψ := []) [none, none, none, none, none, none, none, none, none, none, none, none, none, none, none, none, none, none, none, none, none, none, none, none, none, none, none, none, none, none, none, none, none, none] [none, none, none, none, none, none, none, none, none, none, none, none, none, none, none, none, none, none, none, none, none, none, none, none] zyw_X_isPlace zyw_X_when zye_X_when (by decide +kernel) (zt_X_isPlace hr1) trivial trivial rfl rfl rfl rfl rfl rfl rfl) zd124_2 zxt16 rfl (by decide) (by decide) rfl ?_
  refine zv_zeq hB zd124_5 rfl (fun hc2 => ?_) (fun hc2 => ?_)
  · rw [if_pos hc2] at h
    refine zv_con hB zd124_18 rfl ?_
    have hw := Option.some.inj h
    subst hw
    exact hret _ _ _ _ _ zd124_19 (by trivial) ⟨rfl, rfl, rfl⟩
  · rw [if_neg hc2] at h
    refine zv_ald hB zd124_8 rfl rfl rfl ?_
    refine zv_getq hB zd124_9 rfl rfl rfl ?_
    refine zv_getf hB zd124_12 rfl rfl (fun _ _ => ?_)
    refine zv_zne hB zd124_15 rfl (fun hc3 => ?_) (fun hc3 => ?_)
    · rw [if_neg hc3] at h
      refine zv_ald hB zd124_20 rfl rfl rfl ?_
      refine zv_getr hB zd124_21 rfl ?_
      refine zv_ald hB zd124_24 rfl rfl rfl ?_
      refine zv_getr hB zd124_25 rfl ?_
      obtain ⟨r4, hr4, h⟩ := zi_bind h
      refine zv_cv hB (zv_emq (va2 := [.inr 2, .inr 3]) (F := [.inr 1, .inl f1, .inl f2, .inl f3, .inl f4, .inl f5, .inl f6, .inl f7, .inl f8, .inl f9, .inl f10, .inl f11, .inl f12, .inl f13, .inl f14, .inl f15, .inr 15, .inr 1000, .inr 1000, .inl f19, .inl f20, .inl f21, .inl f22, .inl f23, .inl f24, .inl f25, .inl f26, .inl f27, .inl f28, .inl f29, .inl f30, .inr 1000, .inr 1000, .inl f33]) (F' := [.inr 1, .inl f1, .inl f2, .inl r4.1, .inl f4, .inl r4.2.1, .inl f6, .inl r4.2.2.1, .inl f8, .inl r4.2.2.2.1, .inl f10, .inl r4.2.2.2.2.1, .inl f12, .inl r4.2.2.2.2.2.1, .inl f14, .inl r4.2.2.2.2.2.2.1, .inr 15, .inr 1000, .inr 1000, .inl f19, .inl f20, .inl f21, .inl f22, .inl f23, .inl f24, .inl f25, .inl f26, .inl f27, .inl f28, .inl f29, .inl f30, .inr 1000, .inr 1000, .inl f33]) (G := [g0, g1, g2, g3, g4, g5, g6, g7, g8, g9, g10, g11, g12, g13, g14, g15, g16, g17, g18, g19, g20, g21, g22, g23]) (G' := [g0, r4.2.2.2.2.2.2.2.1, g2, r4.2.2.2.2.2.2.2.2.1, g4, r4.2.2.2.2.2.2.2.2.2.1, g6, r4.2.2.2.2.2.2.2.2.2.2.1, g8, r4.2.2.2.2.2.2.2.2.2.2.2, g10, g11, g12, g13, g14, g15, g16, g17, g18, g19, g20, g21, g22, g23]) (ρ := [2, 3, 4, 5, 6, 7, 8, 9, 10, 11, 12, 13]) (φ := [2, 3, 4, 5, 6, 7, 8, 9, 10, 11, 12, 13, 14, 15]) (ψ := [0, 1, 2, 3, 4, 5, 6, 7, 8, 9]) [none, none, some 0, some 1, some 2, some 3, some 4, some 5, some 6, some 7, some 8, some 9, some 10, some 11, some 12, some 13, none, none, none, none, none, none, none, none, none, none, none, none, none, none, none, none, none, none] [some 0, some 1, some 2, some 3, some 4, some 5, some 6, some 7, some 8, some 9, none, none, none, none, none, none, none, none, none, none, none, none, none, none] zyw_Sky_copyFrom zyw_X_when zye_X_when (by decide +kernel) (zt_Sky_copyFrom hr4) ⟨⟨_, rfl, fun _ => rfl⟩, ⟨_, rfl, fun _ => rfl⟩, ⟨_, rfl, fun _ => rfl⟩, ⟨_, rfl, fun _ => rfl⟩, ⟨_, rfl, fun _ => rfl⟩, ⟨_, rfl, fun _ => rfl⟩, ⟨_, rfl, fun _ => rfl⟩, ⟨_, rfl, fun _ => rfl⟩, ⟨_, rfl, fun _ => rfl⟩, ⟨_, rfl, fun _ => rfl⟩, ⟨_, rfl, fun _ => rfl⟩, ⟨_, rfl, fun _ => rfl⟩, ⟨_, rfl, fun _ => rfl⟩, ⟨_, rfl, fun _ => rfl⟩, trivial⟩ ⟨rfl, rfl, rfl, rfl, rfl, rfl, rfl, rfl, rfl, rfl, trivial⟩ rfl rfl rfl rfl rfl rfl rfl) zd124_28 zxt125 rfl (by decide) (by decide) rfl ?_
      refine zv_con hB zd124_31 rfl ?_
      refine zv_ist hB zd124_32 rfl rfl rfl ?_
      refine zv_con hB zd124_33 rfl ?_
      refine zv_ist hB zd124_34 rfl rfl rfl ?_
      obtain ⟨q10, hq10, h⟩ := zi_bind h
      refine l0 _ _ _ _ _ _ _ _ _ _ _ _ _ _ _ _ _ _ _ _ _ _ _ _ _ _ _ _ _ _ _ _ q10 hq10 ?_
      show good 92 [.inr 1000, .inr 1000, .inr 1000, .inl q10.1, .inr 1000] [] [.inr 1, .inl f1, .inl f2, .inl r4.1, .inl f4, .inl q10.2.1, .inl f6, .inl r4.2.2.1, .inl f8, .inl r4.2.2.2.1, .inl f10, .inl r4.2.2.2.2.1, .inl f12, .inl r4.2.2.2.2.2.1, .inl f14, .inl r4.2.2.2.2.2.2.1, .inr 15, .inr 1000, .inr 1000, .inl q10.2.2.1, .inl q10.2.2.2.1, .inl q10.2.2.2.2.1, .inl q10.2.2.2.2.2.1, .inl f23, .inl q10.2.2.2.2.2.2.1, .inl f25, .inl q10.2.2.2.2.2.2.2.1, .inl f27, .inl f28, .inl f29, .inl f30, .inr 1000, .inr 1000, .inl q10.2.2.2.2.2.2.2.2.1] [g0, r4.2.2.2.2.2.2.2.1, g2, r4.2.2.2.2.2.2.2.2.1, g4, r4.2.2.2.2.2.2.2.2.2.1, g6, r4.2.2.2.2.2.2.2.2.2.2.1, g8, r4.2.2.2.2.2.2.2.2.2.2.2, q10.2.2.2.2.2.2.2.2.2.1, q10.2.2.2.2.2.2.2.2.2.2.1, g12, g13, g14, g15, q10.2.2.2.2.2.2.2.2.2.2.2.1, g17, q10.2.2.2.2.2.2.2.2.2.2.2.2.1, q10.2.2.2.2.2.2.2.2.2.2.2.2.2.1, q10.2.2.2.2.2.2.2.2.2.2.2.2.2.2.1, g21, q10.2.2.2.2.2.2.2.2.2.2.2.2.2.2.2.1, q10.2.2.2.2.2.2.2.2.2.2.2.2.2.2.2.2]
      refine zv_ild hB zd124_92 rfl rfl ?_
      have hw := Option.some.inj h
      subst hw
      exact hret _ _ _ _ _ zd124_93 (by trivial) ⟨rfl, rfl, rfl⟩
    · rw [if_pos hc3] at h
      refine zv_con hB zd124_18 rfl ?_
      have hw := Option.some.inj h
      subst hw
      exact hret _ _ _ _ _ zd124_19 (by trivial) ⟨rfl, rfl, rfl⟩
/-! Math_floorMod (II)I -/
-- names: 
-- fields: ; arrays: ; out: [('ret', None)]
abbrev zy_Math_floorMod : zNL := (0, [], [], [], [])
theorem zyw_Math_floorMod : zv_wf zy_Math_floorMod = true := by decide +kernel
theorem zye_Math_floorMod : zv_ek2 zy_Math_floorMod = true := by decide +kernel
def zf_Math_floorMod (x0 : Int) (x1 : Int) : Option (Int) := cond (zi_ne x1) (if (zi_xor x0 x1) < 0 then (if (zi_rem x0 x1) = 0 then (some (zi_rem x0 x1)) else (some (zi_w ((zi_rem x0 x1) + x1)))) else (some (zi_rem x0 x1))) none
theorem zd129_0 : decode zxm129.2.1 0 = .ok (.iload_n 0, 1) := by decide +kernel
theorem zd129_1 : decode zxm129.2.1 1 = .ok (.iload_n 1, 1) := by decide +kernel
theorem zd129_2 : decode zxm129.2.1 2 = .ok (.irem, 1) := by decide +kernel
theorem zd129_3 : decode zxm129.2.1 3 = .ok (.istore_n 2, 1) := by decide +kernel
theorem zd129_4 : decode zxm129.2.1 4 = .ok (.iload_n 0, 1) := by decide +kernel
theorem zd129_5 : decode zxm129.2.1 5 = .ok (.iload_n 1, 1) := by decide +kernel
theorem zd129_6 : decode zxm129.2.1 6 = .ok (.ixor, 1) := by decide +kernel
theorem zd129_7 : decode zxm129.2.1 7 = .ok (.ifCond .ge 11, 3) := by decide +kernel
theorem zd129_10 : decode zxm129.2.1 10 = .ok (.iload_n 2, 1) := by decide +kernel
theorem zd129_11 : decode zxm129.2.1 11 = .ok (.ifCond .eq 7, 3) := by decide +kernel
theorem zd129_14 : decode zxm129.2.1 14 = .ok (.iload_n 2, 1) := by decide +kernel
theorem zd129_15 : decode zxm129.2.1 15 = .ok (.iload_n 1, 1) := by decide +kernel
theorem zd129_16 : decode zxm129.2.1 16 = .ok (.iadd, 1) := by decide +kernel
theorem zd129_17 : decode zxm129.2.1 17 = .ok (.ireturn, 1) := by decide +kernel
theorem zd129_18 : decode zxm129.2.1 18 = .ok (.iload_n 2, 1) := by decide +kernel
theorem zd129_19 : decode zxm129.2.1 19 = .ok (.ireturn, 1) := by decide +kernel
theorem zt_Math_floorMod {x0 : Int} {x1 : Int} {o : Int} (h : zf_Math_floorMod x0 x1 = some o) : zv_Fn z_TB z_cl z_KX zy_Math_floorMod zxm129 (0, 0) [.inl x0, .inl x1] [] [] (some o) [] [] := zv_meth (K := (z_KF16, z_KC16, z_KL16, z_KT16, [], [], [], none)) (FT := z_FT) (MT := z_MT) (n := 2) zxp129 (z_ks16 _ (fun _ h => List.mem_cons_of_mem _ h) _ _ _ _ (fun j r h _ => by cases h)) (fun _ _ => zs_KX_p) zyw_Math_floorMod (fun va F G h => by obtain ⟨rfl, _⟩ := h; rfl) (fun va F G h => by obtain ⟨rfl, _⟩ := h; rfl) rfl fun good va F G hB hret hvret hP => by
  obtain ⟨rfl, rfl, rfl⟩ := hP
  unfold zf_Math_floorMod at h
  refine zv_ild hB zd129_0 rfl rfl ?_
  refine zv_ild hB zd129_1 rfl rfl ?_
  obtain ⟨c1, h⟩ := zi_if h
  refine zv_remw hB zd129_2 (zi_ne_ok c1) ?_
  refine zv_ist hB zd129_3 rfl rfl rfl ?_
  refine zv_ild hB zd129_4 rfl rfl ?_
  refine zv_ild hB zd129_5 rfl rfl ?_
  refine zv_xorw hB zd129_6 ?_
  refine zv_zge hB zd129_7 rfl (fun hc2 => ?_) (fun hc2 => ?_)
  · rw [if_neg (Int.not_lt.mpr hc2)] at h
    refine zv_ild hB zd129_18 rfl rfl ?_
    have hw := Option.some.inj h
    subst hw
    exact hret _ _ _ _ _ zd129_19 (by trivial) ⟨rfl, rfl, rfl⟩
  · rw [if_pos hc2] at h
    refine zv_ild hB zd129_10 rfl rfl ?_
    refine zv_zeq hB zd129_11 rfl (fun hc3 => ?_) (fun hc3 => ?_)
    · rw [if_pos hc3] at h
      refine zv_ild hB zd129_18 rfl rfl ?_
      have hw := Option.some.inj h
      subst hw
      exact hret _ _ _ _ _ zd129_19 (by trivial) ⟨rfl, rfl, rfl⟩
    · rw [if_neg hc3] at h
      refine zv_ild hB zd129_14 rfl rfl ?_
      refine zv_ild hB zd129_15 rfl rfl ?_
      refine zv_addw hB zd129_16 ?_
      have hw := Option.some.inj h
      subst hw
      exact hret _ _ _ _ _ zd129_17 (by trivial) ⟨rfl, rfl, rfl⟩
/-! Patches_partOf (III)I -/
-- names: 
-- fields: ; arrays: ; out: [('ret', None)]
abbrev zy_Patches_partOf : zNL := (0, [], [], [], [])
theorem zyw_Patches_partOf : zv_wf zy_Patches_partOf = true := by decide +kernel
theorem zye_Patches_partOf : zv_ek2 zy_Patches_partOf = true := by decide +kernel
def zf_Patches_partOf (x0 : Int) (x1 : Int) (x2 : Int) : Option (Int) := some (zi_or (zi_or (zi_shl x0 16) (zi_shl x1 8)) x2)
theorem zd130_0 : decode zxm130.2.1 0 = .ok (.iload_n 0, 1) := by decide +kernel
theorem zd130_1 : decode zxm130.2.1 1 = .ok (.bipush 16, 2) := by decide +kernel
theorem zd130_3 : decode zxm130.2.1 3 = .ok (.ishl, 1) := by decide +kernel
theorem zd130_4 : decode zxm130.2.1 4 = .ok (.iload_n 1, 1) := by decide +kernel
theorem zd130_5 : decode zxm130.2.1 5 = .ok (.bipush 8, 2) := by decide +kernel
theorem zd130_7 : decode zxm130.2.1 7 = .ok (.ishl, 1) := by decide +kernel
theorem zd130_8 : decode zxm130.2.1 8 = .ok (.ior, 1) := by decide +kernel
theorem zd130_9 : decode zxm130.2.1 9 = .ok (.iload_n 2, 1) := by decide +kernel
theorem zd130_10 : decode zxm130.2.1 10 = .ok (.ior, 1) := by decide +kernel
theorem zd130_11 : decode zxm130.2.1 11 = .ok (.ireturn, 1) := by decide +kernel
theorem zt_Patches_partOf {x0 : Int} {x1 : Int} {x2 : Int} {o : Int} (h : zf_Patches_partOf x0 x1 x2 = some o) : zv_Fn z_TB z_cl z_KX zy_Patches_partOf zxm130 (0, 0) [.inl x0, .inl x1, .inl x2] [] [] (some o) [] [] := zv_meth (K := (z_KF5, z_KC5, z_KL5, z_KT5, [], [], [], none)) (FT := z_FT) (MT := z_MT) (n := 3) zxp130 (z_ks5 _ (fun _ h => List.mem_cons_of_mem _ h) _ _ _ _ (fun j r h _ => by cases h)) (fun _ _ => zs_KX_p) zyw_Patches_partOf (fun va F G h => by obtain ⟨rfl, _⟩ := h; rfl) (fun va F G h => by obtain ⟨rfl, _⟩ := h; rfl) rfl fun good va F G hB hret hvret hP => by
  obtain ⟨rfl, rfl, rfl⟩ := hP
  unfold zf_Patches_partOf at h
  refine zv_ild hB zd130_0 rfl rfl ?_
  refine zv_con hB zd130_1 rfl ?_
  refine zv_shlw hB zd130_3 ?_
  refine zv_ild hB zd130_4 rfl rfl ?_
  refine zv_con hB zd130_5 rfl ?_
  refine zv_shlw hB zd130_7 ?_
  refine zv_orw hB zd130_8 ?_
  refine zv_ild hB zd130_9 rfl rfl ?_
  refine zv_orw hB zd130_10 ?_
  have hw := Option.some.inj h
  subst hw
  exact hret _ _ _ _ _ zd130_11 (by trivial) ⟨rfl, rfl, rfl⟩
/-! Patches_fillParts_24 (II[I)I -/
-- names: 0 Patches('arg', 0), 1 (0, 24)('arg', 3), 2 Sky(0, 10, 6), 3 (0, 24)(2, 1, 1), 4 (0, 24)(2, 1, 2), 5 (0, 24)(2, 1, 3)
-- fields: f0 = 2.hour_; arrays: g0 = 1, g1 = 3, g2 = 4, g3 = 5; out: [('ret', None), ('g', 0)]
abbrev zy_Patches_fillParts_24 : zNL := (6, [(0, 10), (2, 1)], [(2, 1, 6, 0)], [(0, 10, 6, 2), (2, 1, 1, 3), (2, 1, 2, 4), (2, 1, 3, 5)], [(1, 0, 24, 0), (3, 0, 24, 1), (4, 0, 24, 2), (5, 0, 24, 3)])
theorem zyw_Patches_fillParts_24 : zv_wf zy_Patches_fillParts_24 = true := by decide +kernel
theorem zye_Patches_fillParts_24 : zv_ek2 zy_Patches_fillParts_24 = true := by decide +kernel
def zf_Patches_fillParts_24_l0_b (x1 : Int) (x2 : Int) (f0 : Int) (g1 : (Int → Int)) (g2 : (Int → Int)) (g3 : (Int → Int)) (rec : Int → Int → (Int → Int) → Option (Int × (Int → Int))) (x4 : Int) (x5 : Int) (g0 : (Int → Int)) : Option (Int × (Int → Int)) := if x5 < 24 then (if (zi_and (zi_shr x1 x5) 1) = 0 then (rec x4 (zi_w (x5 + 1)) g0) else (if x4 < 24 then ((zf_Sky_standing x5 f0 g1).bind fun r4 => ((zf_X_columnOf x2).bind fun r5 => ((zf_Math_floorMod (zi_w (r4 - r5)) 24).bind fun r6 => (if 12 < r6 then (cond (zi_ix x5 24) ((zf_X_rowOf x2).bind fun r13 => ((zf_Patches_partOf (zi_w ((zi_w (r6 - 24)) + 12)) (zi_w ((zi_w ((g2 x5) - r13)) + 12)) (g3 x5)).bind fun r14 => (cond (zi_ix x4 24) (rec (zi_w (x4 + 1)) (zi_w (x5 + 1)) (zv_up g0 x4 r14)) none))) none) else (cond (zi_ix x5 24) ((zf_X_rowOf x2).bind fun r9 => ((zf_Patches_partOf (zi_w (r6 + 12)) (zi_w ((zi_w ((g2 x5) - r9)) + 12)) (g3 x5)).bind fun r10 => (cond (zi_ix x4 24) (rec (zi_w (x4 + 1)) (zi_w (x5 + 1)) (zv_up g0 x4 r10)) none))) none))))) else (rec x4 (zi_w (x5 + 1)) g0))) else (some (x4, g0))
def zf_Patches_fillParts_24_l0 (x1 : Int) (x2 : Int) (f0 : Int) (g1 : (Int → Int)) (g2 : (Int → Int)) (g3 : (Int → Int)) : Nat → Int → Int → (Int → Int) → Option (Int × (Int → Int))
  | 0, _, _, _ => none
  | n + 1, x4, x5, g0 => zf_Patches_fillParts_24_l0_b x1 x2 f0 g1 g2 g3 (zf_Patches_fillParts_24_l0 x1 x2 f0 g1 g2 g3 n) x4 x5 g0
def zf_Patches_fillParts_24 (x1 : Int) (x2 : Int) (f0 : Int) (g0 : (Int → Int)) (g1 : (Int → Int)) (g2 : (Int → Int)) (g3 : (Int → Int)) : Option (Int × (Int → Int)) := (zf_Patches_fillParts_24_l0 x1 x2 f0 g1 g2 g3 zi_fu 0 0 g0).bind fun q16 => (some (q16.1, q16.2))
theorem zd128_0 : decode zxm128.2.1 0 = .ok (.iconst 0, 1) := by decide +kernel
theorem zd128_1 : decode zxm128.2.1 1 = .ok (.istore 4, 2) := by decide +kernel
theorem zd128_3 : decode zxm128.2.1 3 = .ok (.iconst 0, 1) := by decide +kernel
theorem zd128_4 : decode zxm128.2.1 4 = .ok (.istore 5, 2) := by decide +kernel
theorem zd128_6 : decode zxm128.2.1 6 = .ok (.iload 5, 2) := by decide +kernel
theorem zd128_8 : decode zxm128.2.1 8 = .ok (.bipush 24, 2) := by decide +kernel
theorem zd128_10 : decode zxm128.2.1 10 = .ok (.if_icmp .ge 108, 3) := by decide +kernel
theorem zd128_13 : decode zxm128.2.1 13 = .ok (.iload_n 1, 1) := by decide +kernel
theorem zd128_14 : decode zxm128.2.1 14 = .ok (.iload 5, 2) := by decide +kernel
theorem zd128_16 : decode zxm128.2.1 16 = .ok (.ishr, 1) := by decide +kernel
theorem zd128_17 : decode zxm128.2.1 17 = .ok (.iconst 1, 1) := by decide +kernel
theorem zd128_18 : decode zxm128.2.1 18 = .ok (.iand, 1) := by decide +kernel
theorem zd128_19 : decode zxm128.2.1 19 = .ok (.ifCond .eq 93, 3) := by decide +kernel
theorem zd128_22 : decode zxm128.2.1 22 = .ok (.iload 4, 2) := by decide +kernel
theorem zd128_24 : decode zxm128.2.1 24 = .ok (.aload_n 3, 1) := by decide +kernel
theorem zd128_25 : decode zxm128.2.1 25 = .ok (.arraylength, 1) := by decide +kernel
theorem zd128_26 : decode zxm128.2.1 26 = .ok (.if_icmp .ge 86, 3) := by decide +kernel
theorem zd128_29 : decode zxm128.2.1 29 = .ok (.aload_n 0, 1) := by decide +kernel
theorem zd128_30 : decode zxm128.2.1 30 = .ok (.getfield 32, 3) := by decide +kernel
theorem zd128_33 : decode zxm128.2.1 33 = .ok (.iload 5, 2) := by decide +kernel
theorem zd128_35 : decode zxm128.2.1 35 = .ok (.invokevirtual 57, 3) := by decide +kernel
theorem zd128_38 : decode zxm128.2.1 38 = .ok (.iload_n 2, 1) := by decide +kernel
theorem zd128_39 : decode zxm128.2.1 39 = .ok (.invokestatic 36, 3) := by decide +kernel
theorem zd128_42 : decode zxm128.2.1 42 = .ok (.isub, 1) := by decide +kernel
theorem zd128_43 : decode zxm128.2.1 43 = .ok (.bipush 24, 2) := by decide +kernel
theorem zd128_45 : decode zxm128.2.1 45 = .ok (.invokestatic 62, 3) := by decide +kernel
theorem zd128_48 : decode zxm128.2.1 48 = .ok (.istore 6, 2) := by decide +kernel
theorem zd128_50 : decode zxm128.2.1 50 = .ok (.iload 6, 2) := by decide +kernel
theorem zd128_52 : decode zxm128.2.1 52 = .ok (.bipush 12, 2) := by decide +kernel
theorem zd128_54 : decode zxm128.2.1 54 = .ok (.if_icmp .le 11, 3) := by decide +kernel
theorem zd128_57 : decode zxm128.2.1 57 = .ok (.iload 6, 2) := by decide +kernel
theorem zd128_59 : decode zxm128.2.1 59 = .ok (.bipush 24, 2) := by decide +kernel
theorem zd128_61 : decode zxm128.2.1 61 = .ok (.isub, 1) := by decide +kernel
theorem zd128_62 : decode zxm128.2.1 62 = .ok (.goto 5, 3) := by decide +kernel
theorem zd128_65 : decode zxm128.2.1 65 = .ok (.iload 6, 2) := by decide +kernel
theorem zd128_67 : decode zxm128.2.1 67 = .ok (.istore 7, 2) := by decide +kernel
theorem zd128_69 : decode zxm128.2.1 69 = .ok (.aload_n 3, 1) := by decide +kernel
theorem zd128_70 : decode zxm128.2.1 70 = .ok (.iload 4, 2) := by decide +kernel
theorem zd128_72 : decode zxm128.2.1 72 = .ok (.iload 7, 2) := by decide +kernel
theorem zd128_74 : decode zxm128.2.1 74 = .ok (.bipush 12, 2) := by decide +kernel
theorem zd128_76 : decode zxm128.2.1 76 = .ok (.iadd, 1) := by decide +kernel
theorem zd128_77 : decode zxm128.2.1 77 = .ok (.aload_n 0, 1) := by decide +kernel
theorem zd128_78 : decode zxm128.2.1 78 = .ok (.getfield 32, 3) := by decide +kernel
theorem zd128_81 : decode zxm128.2.1 81 = .ok (.getfield 68, 3) := by decide +kernel
theorem zd128_84 : decode zxm128.2.1 84 = .ok (.iload 5, 2) := by decide +kernel
theorem zd128_86 : decode zxm128.2.1 86 = .ok (.iaload, 1) := by decide +kernel
theorem zd128_87 : decode zxm128.2.1 87 = .ok (.iload_n 2, 1) := by decide +kernel
theorem zd128_88 : decode zxm128.2.1 88 = .ok (.invokestatic 40, 3) := by decide +kernel
theorem zd128_91 : decode zxm128.2.1 91 = .ok (.isub, 1) := by decide +kernel
theorem zd128_92 : decode zxm128.2.1 92 = .ok (.bipush 12, 2) := by decide +kernel
theorem zd128_94 : decode zxm128.2.1 94 = .ok (.iadd, 1) := by decide +kernel
theorem zd128_95 : decode zxm128.2.1 95 = .ok (.aload_n 0, 1) := by decide +kernel
theorem zd128_96 : decode zxm128.2.1 96 = .ok (.getfield 32, 3) := by decide +kernel
theorem zd128_99 : decode zxm128.2.1 99 = .ok (.getfield 71, 3) := by decide +kernel
theorem zd128_102 : decode zxm128.2.1 102 = .ok (.iload 5, 2) := by decide +kernel
theorem zd128_104 : decode zxm128.2.1 104 = .ok (.iaload, 1) := by decide +kernel
theorem zd128_105 : decode zxm128.2.1 105 = .ok (.invokestatic 74, 3) := by decide +kernel
theorem zd128_108 : decode zxm128.2.1 108 = .ok (.iastore, 1) := by decide +kernel
theorem zd128_109 : decode zxm128.2.1 109 = .ok (.iinc 4 1, 3) := by decide +kernel
theorem zd128_112 : decode zxm128.2.1 112 = .ok (.iinc 5 1, 3) := by decide +kernel
theorem zd128_115 : decode zxm128.2.1 115 = .ok (.goto (-109), 3) := by decide +kernel
theorem zd128_118 : decode zxm128.2.1 118 = .ok (.iload 4, 2) := by decide +kernel
theorem zd128_120 : decode zxm128.2.1 120 = .ok (.ireturn, 1) := by decide +kernel
theorem zt_Patches_fillParts_24 {x1 : Int} {x2 : Int} {f0 : Int} {g0 : (Int → Int)} {g1 : (Int → Int)} {g2 : (Int → Int)} {g3 : (Int → Int)} {o : Int × (Int → Int)} (h : zf_Patches_fillParts_24 x1 x2 f0 g0 g1 g2 g3 = some o) : zv_Fn z_TB z_cl z_KX zy_Patches_fillParts_24 zxm128 (1, 60) [.inr 0, .inl x1, .inl x2, .inr 1] [.inl f0] [g0, g1, g2, g3] (some o.1) [.inl f0] [o.2, g1, g2, g3] := zv_meth (K := (z_KF5, z_KC5, z_KL5, z_KT5, [], [], [], none)) (FT := z_FT) (MT := z_MT) (n := 4) zxp128 (z_ks5 _ (fun _ h => List.mem_cons_of_mem _ h) _ _ _ _ (fun j r h _ => by cases h)) (fun _ _ => zs_KX_p) zyw_Patches_fillParts_24 (fun va F G h => by obtain ⟨rfl, _⟩ := h; rfl) (fun va F G h => by obtain ⟨rfl, _⟩ := h; rfl) rfl fun good va F G hB hret hvret hP => by
  obtain ⟨rfl, rfl, rfl⟩ := hP
  have l0 : ∀ (n : Nat) (x1 : Int) (x2 : Int) (x4 : Int) (x5 : Int) (g0 : (Int → Int)) (q : Int × (Int → Int)), zf_Patches_fillParts_24_l0 x1 x2 f0 g1 g2 g3 n x4 x5 g0 = some q → (good 118 [.inr 1000, .inr 1000, .inr 1000, .inr 1000, .inl q.1, .inr 1000, .inr 1000, .inr 1000] [] [.inl f0] [q.2, g1, g2, g3]) → good 6 [.inr 0, .inl x1, .inl x2, .inr 1, .inl x4, .inl x5, .inr 1000, .inr 1000] [] [.inl f0] [g0, g1, g2, g3] := by
    intro n
    induction n with
    | zero => intro x1 x2 x4 x5 g0 q h; exact absurd (show none = some q from h) (fun h => by cases h)
    | succ n ih =>
      intro x1 x2 x4 x5 g0 q h hK
      replace h : zf_Patches_fillParts_24_l0_b x1 x2 f0 g1 g2 g3 (zf_Patches_fillParts_24_l0 x1 x2 f0 g1 g2 g3 n) x4 x5 g0 = some q := h
      unfold zf_Patches_fillParts_24_l0_b at h
      refine zv_ild hB zd128_6 rfl rfl ?_
      refine zv_con hB zd128_8 rfl ?_
      refine zv_cge hB zd128_10 rfl (fun hc1 => ?_) (fun hc1 => ?_)
      · rw [if_neg (Int.not_lt.mpr hc1)] at h
        have hq := Option.some.inj h
        subst hq
        refine zv_wk hB (L' := [.inr 1000, .inr 1000, .inr 1000, .inr 1000, .inl x4, .inr 1000, .inr 1000, .inr 1000]) (F' := [.inl f0]) ⟨fun (h : zv_is (.inr 1000)) => (Nat.lt_irrefl 1000 h).elim, fun (h : zv_is (.inr 1000)) => (Nat.lt_irrefl 1000 h).elim, fun (h : zv_is (.inr 1000)) => (Nat.lt_irrefl 1000 h).elim, fun (h : zv_is (.inr 1000)) => (Nat.lt_irrefl 1000 h).elim, fun _ => rfl, fun (h : zv_is (.inr 1000)) => (Nat.lt_irrefl 1000 h).elim, fun (h : zv_is (.inr 1000)) => (Nat.lt_irrefl 1000 h).elim, fun (h : zv_is (.inr 1000)) => (Nat.lt_irrefl 1000 h).elim, trivial⟩ ⟨fun _ => rfl, trivial⟩ ?_
        exact hK
      · rw [if_pos hc1] at h
        refine zv_ild hB zd128_13 rfl rfl ?_
        refine zv_ild hB zd128_14 rfl rfl ?_
        refine zv_shrw hB zd128_16 ?_
        refine zv_con hB zd128_17 rfl ?_
        refine zv_andw hB zd128_18 ?_
        refine zv_zeq hB zd128_19 rfl (fun hc2 => ?_) (fun hc2 => ?_)
        · rw [if_pos hc2] at h
          refine zv_iincw hB zd128_112 rfl rfl ?_
          refine zv_goto hB zd128_115 rfl ?_
          exact ih _ _ _ _ _ q h hK
        · rw [if_neg hc2] at h
          refine zv_ild hB zd128_22 rfl rfl ?_
          refine zv_ald hB zd128_24 rfl rfl rfl ?_
          refine zv_alen (v := 24) hB zd128_25 rfl rfl rfl rfl ?_
          refine zv_cge hB zd128_26 rfl (fun hc3 => ?_) (fun hc3 => ?_)
          · rw [if_neg (Int.not_lt.mpr hc3)] at h
            refine zv_iincw hB zd128_112 rfl rfl ?_
            refine zv_goto hB zd128_115 rfl ?_
            exact ih _ _ _ _ _ q h hK
          · rw [if_pos hc3] at h
            refine zv_ald hB zd128_29 rfl rfl rfl ?_
            refine zv_getr hB zd128_30 rfl ?_
            refine zv_ild hB zd128_33 rfl rfl ?_
            obtain ⟨r4, hr4, h⟩ := zi_bind h
            refine zv_cv hB (zv_emq (va2 := [.inr 2, .inl x5]) (F := [.inl f0]) (F' := [.inl f0]) (G := [g0, g1, g2, g3]) (G' := [g0, g1, g2, g3]) (ρ := [2, 3]) (φ := [0]) (ψ := [1]) [some 0] [none, some 0, none, none] zyw_Sky_standing zyw_Patches_fillParts_24 zye_Patches_fillParts_24 (by decide +kernel) (zt_Sky_standing hr4) ⟨⟨_, rfl, fun _ => rfl⟩, trivial⟩ ⟨rfl, trivial⟩ rfl rfl rfl rfl rfl rfl rfl) zd128_35 zxt82 rfl (by decide) (by decide) rfl ?_
            refine zv_ild hB zd128_38 rfl rfl ?_
            obtain ⟨r5, hr5, h⟩ := zi_bind h
            refine zv_cs hB (zv_emq (va2 := [.inl x2]) (F := [.inl f0]) (F' := [.inl f0]) (G := [g0, g1, g2, g3]) (G' := [g0, g1, g2, g3]) (ρ := []) (φ := []) (ψ := []) [none] [none, none, none, none] zyw_X_columnOf zyw_Patches_fillParts_24 zye_Patches_fillParts_24 (by decide +kernel) (zt_X_columnOf hr5) trivial trivial rfl rfl rfl rfl rfl rfl rfl) zd128_39 zxt31 rfl (by decide) (by decide) rfl ?_
            refine zv_subw hB zd128_42 ?_
            refine zv_con hB zd128_43 rfl ?_
            obtain ⟨r6, hr6, h⟩ := zi_bind h
            refine zv_cs hB (zv_emq (va2 := [.inl (zi_w (r4 - r5)), .inl 24]) (F := [.inl f0]) (F' := [.inl f0]) (G := [g0, g1, g2, g3]) (G' := [g0, g1, g2, g3]) (ρ := []) (φ := []) (ψ := []) [none] [none, none, none, none] zyw_Math_floorMod zyw_Patches_fillParts_24 zye_Patches_fillParts_24 (by decide +kernel) (zt_Math_floorMod hr6) trivial trivial rfl rfl rfl rfl rfl rfl rfl) zd128_45 zxt129 rfl (by decide) (by decide) rfl ?_
            refine zv_ist hB zd128_48 rfl rfl rfl ?_
            refine zv_ild hB zd128_50 rfl rfl ?_
            refine zv_con hB zd128_52 rfl ?_
            refine zv_cle hB zd128_54 rfl (fun hc7 => ?_) (fun hc7 => ?_)
            · rw [if_neg (Int.not_lt.mpr hc7)] at h
              refine zv_ild hB zd128_65 rfl rfl ?_
              refine zv_ist hB zd128_67 rfl rfl rfl ?_
              refine zv_ald hB zd128_69 rfl rfl rfl ?_
              refine zv_ild hB zd128_70 rfl rfl ?_
              refine zv_ild hB zd128_72 rfl rfl ?_
              refine zv_con hB zd128_74 rfl ?_
              refine zv_addw hB zd128_76 ?_
              refine zv_ald hB zd128_77 rfl rfl rfl ?_
              refine zv_getr hB zd128_78 rfl ?_
              refine zv_getr hB zd128_81 rfl ?_
              refine zv_ild hB zd128_84 rfl rfl ?_
              obtain ⟨c8, h⟩ := zi_if h
              refine zv_iald hB zd128_86 rfl rfl (zi_ix_ok c8).1 (zi_ix_ok c8).2 (fun _ _ => ?_)
              refine zv_ild hB zd128_87 rfl rfl ?_
              obtain ⟨r9, hr9, h⟩ := zi_bind h
              refine zv_cs hB (zv_emq (va2 := [.inl x2]) (F := [.inl f0]) (F' := [.inl f0]) (G := [g0, g1, g2, g3]) (G' := [g0, g1, g2, g3]) (ρ := []) (φ := []) (ψ := []) [none] [none, none, none, none] zyw_X_rowOf zyw_Patches_fillParts_24 zye_Patches_fillParts_24 (by decide +kernel) (zt_X_rowOf hr9) trivial trivial rfl rfl rfl rfl rfl rfl rfl) zd128_88 zxt30 rfl (by decide) (by decide) rfl ?_
              refine zv_subw hB zd128_91 ?_
              refine zv_con hB zd128_92 rfl ?_
              refine zv_addw hB zd128_94 ?_
              refine zv_ald hB zd128_95 rfl rfl rfl ?_
              refine zv_getr hB zd128_96 rfl ?_
              refine zv_getr hB zd128_99 rfl ?_
              refine zv_ild hB zd128_102 rfl rfl ?_
              refine zv_iald hB zd128_104 rfl rfl (zi_ix_ok c8).1 (zi_ix_ok c8).2 (fun _ _ => ?_)
              obtain ⟨r10, hr10, h⟩ := zi_bind h
              refine zv_cs hB (zv_emq (va2 := [.inl (zi_w (r6 + 12)), .inl (zi_w ((zi_w ((g2 x5) - r9)) + 12)), .inl (g3 x5)]) (F := [.inl f0]) (F' := [.inl f0]) (G := [g0, g1, g2, g3]) (G' := [g0, g1, g2, g3]) (ρ := []) (φ := []) (ψ := []) [none] [none, none, none, none] zyw_Patches_partOf zyw_Patches_fillParts_24 zye_Patches_fillParts_24 (by decide +kernel) (zt_Patches_partOf hr10) trivial trivial rfl rfl rfl rfl rfl rfl rfl) zd128_105 zxt130 rfl (by decide) (by decide) rfl ?_
              obtain ⟨c11, h⟩ := zi_if h
              refine zv_iast hB zd128_108 rfl rfl (zi_ix_ok c11).1 (zi_ix_ok c11).2 ?_
              refine zv_iincw hB zd128_109 rfl rfl ?_
              refine zv_iincw hB zd128_112 rfl rfl ?_
              refine zv_goto hB zd128_115 rfl ?_
              refine zv_wk hB (L' := [.inr 0, .inl x1, .inl x2, .inr 1, .inl (zi_w (x4 + 1)), .inl (zi_w (x5 + 1)), .inr 1000, .inr 1000]) (F' := [.inl f0]) ⟨fun _ => rfl, fun _ => rfl, fun _ => rfl, fun _ => rfl, fun _ => rfl, fun _ => rfl, fun (h : zv_is (.inr 1000)) => (Nat.lt_irrefl 1000 h).elim, fun (h : zv_is (.inr 1000)) => (Nat.lt_irrefl 1000 h).elim, trivial⟩ ⟨fun _ => rfl, trivial⟩ ?_
              exact ih _ _ _ _ _ q h hK
            · rw [if_pos hc7] at h
              refine zv_ild hB zd128_57 rfl rfl ?_
              refine zv_con hB zd128_59 rfl ?_
              refine zv_subw hB zd128_61 ?_
              refine zv_goto hB zd128_62 rfl ?_
              refine zv_ist hB zd128_67 rfl rfl rfl ?_
              refine zv_ald hB zd128_69 rfl rfl rfl ?_
              refine zv_ild hB zd128_70 rfl rfl ?_
              refine zv_ild hB zd128_72 rfl rfl ?_
              refine zv_con hB zd128_74 rfl ?_
              refine zv_addw hB zd128_76 ?_
              refine zv_ald hB zd128_77 rfl rfl rfl ?_
              refine zv_getr hB zd128_78 rfl ?_
              refine zv_getr hB zd128_81 rfl ?_
              refine zv_ild hB zd128_84 rfl rfl ?_
              obtain ⟨c12, h⟩ := zi_if h
              refine zv_iald hB zd128_86 rfl rfl (zi_ix_ok c12).1 (zi_ix_ok c12).2 (fun _ _ => ?_)
              refine zv_ild hB zd128_87 rfl rfl ?_
              obtain ⟨r13, hr13, h⟩ := zi_bind h
              refine zv_cs hB (zv_emq (va2 := [.inl x2]) (F := [.inl f0]) (F' := [.inl f0]) (G := [g0, g1, g2, g3]) (G' := [g0, g1, g2, g3]) (ρ := []) (φ := []) (ψ := []) [none] [none, none, none, none] zyw_X_rowOf zyw_Patches_fillParts_24 zye_Patches_fillParts_24 (by decide +kernel) (zt_X_rowOf hr13) trivial trivial rfl rfl rfl rfl rfl rfl rfl) zd128_88 zxt30 rfl (by decide) (by decide) rfl ?_
              refine zv_subw hB zd128_91 ?_
              refine zv_con hB zd128_92 rfl ?_
              refine zv_addw hB zd128_94 ?_
              refine zv_ald hB zd128_95 rfl rfl rfl ?_
              refine zv_getr hB zd128_96 rfl ?_
              refine zv_getr hB zd128_99 rfl ?_
              refine zv_ild hB zd128_102 rfl rfl ?_
              refine zv_iald hB zd128_104 rfl rfl (zi_ix_ok c12).1 (zi_ix_ok c12).2 (fun _ _ => ?_)
              obtain ⟨r14, hr14, h⟩ := zi_bind h
              refine zv_cs hB (zv_emq (va2 := [.inl (zi_w ((zi_w (r6 - 24)) + 12)), .inl (zi_w ((zi_w ((g2 x5) - r13)) + 12)), .inl (g3 x5)]) (F := [.inl f0]) (F' := [.inl f0]) (G := [g0, g1, g2, g3]) (G' := [g0, g1, g2, g3]) (ρ := []) (φ := []) (ψ := []) [none] [none, none, none, none] zyw_Patches_partOf zyw_Patches_fillParts_24 zye_Patches_fillParts_24 (by decide +kernel) (zt_Patches_partOf hr14) trivial trivial rfl rfl rfl rfl rfl rfl rfl) zd128_105 zxt130 rfl (by decide) (by decide) rfl ?_
              obtain ⟨c15, h⟩ := zi_if h
              refine zv_iast hB zd128_108 rfl rfl (zi_ix_ok c15).1 (zi_ix_ok c15).2 ?_
              refine zv_iincw hB zd128_109 rfl rfl ?_
              refine zv_iincw hB zd128_112 rfl rfl ?_
              refine zv_goto hB zd128_115 rfl ?_
              refine zv_wk hB (L' := [.inr 0, .inl x1, .inl x2, .inr 1, .inl (zi_w (x4 + 1)), .inl (zi_w (x5 + 1)), .inr 1000, .inr 1000]) (F' := [.inl f0]) ⟨fun _ => rfl, fun _ => rfl, fun _ => rfl, fun _ => rfl, fun _ => rfl, fun _ => rfl, fun (h : zv_is (.inr 1000)) => (Nat.lt_irrefl 1000 h).elim, fun (h : zv_is (.inr 1000)) => (Nat.lt_irrefl 1000 h).elim, trivial⟩ ⟨fun _ => rfl, trivial⟩ ?_
              exact ih _ _ _ _ _ q h hK
  unfold zf_Patches_fillParts_24 at h
  refine zv_con hB zd128_0 rfl ?_
  refine zv_ist hB zd128_1 rfl rfl rfl ?_
  refine zv_con hB zd128_3 rfl ?_
  refine zv_ist hB zd128_4 rfl rfl rfl ?_
  obtain ⟨q16, hq16, h⟩ := zi_bind h
  refine l0 _ _ _ _ _ _ q16 hq16 ?_
  show good 118 [.inr 1000, .inr 1000, .inr 1000, .inr 1000, .inl q16.1, .inr 1000, .inr 1000, .inr 1000] [] [.inl f0] [q16.2, g1, g2, g3]
  refine zv_ild hB zd128_118 rfl rfl ?_
  have hw := Option.some.inj h
  subst hw
  exact hret _ _ _ _ _ zd128_120 (by trivial) ⟨rfl, rfl, rfl⟩
end
section
/-! Methods as functions, and that they do what these do. -/
/-! Patches_lookEverywhere (LStarTales$View;)V -/
-- names: 0 Patches('arg', 0), 1 View('arg', 1), 2 Law(1, 7, 1), 3 (0, 13)(2, 4, 12), 4 Sky(1, 7, 0), 5 (0, 24)(4, 1, 1), 6 (0, 24)(4, 1, 2), 7 (0, 24)(4, 1, 3), 8 (0, 14)(2, 4, 3), 9 (0, 14)(2, 4, 5), 10 (0, 14)(2, 4, 6), 11 (0, 200)(2, 4, 0), 12 (0, 40)(2, 4, 13), 13 (0, 200)(2, 4, 1), 14 (0, 288)(0, 10, 0), 15 (2, 288)(0, 10, 1), 16 (0, 24)(0, 10, 4), 17 Sky(0, 10, 6), 18 (0, 24)(17, 1, 1), 19 (0, 24)(17, 1, 2), 20 (0, 24)(17, 1, 3)
-- fields: f0 = 1.law_, f1 = 1.sky_, f2 = 1.x_, f3 = 1.y_, f4 = 4.hour_, f5 = 4.night_, f6 = 1.shown_, f7 = 4.told_, f8 = 4.sightColumns_, f9 = 4.sightRows_, f10 = 4.clouds_, f11 = 2.tellsSeen_, f12 = 1.starsAsked_, f13 = 1.starsHold_, f14 = 2.clauses_, f15 = 2.answer_, f16 = 2.seenByPlace_, f17 = 17.hour_; arrays: g0 = 3, g1 = 5, g2 = 6, g3 = 7, g4 = 8, g5 = 9, g6 = 10, g7 = 11, g8 = 12, g9 = 13, g10 = 14, g11 = 15, g12 = 16, g13 = 18, g14 = 19, g15 = 20; out: [('f', 2), ('f', 3), ('f', 6), ('f', 12), ('f', 13), ('f', 15), ('g', 0), ('g', 8), ('g', 10), ('g', 11), ('g', 12)]
abbrev zy_Patches_lookEverywhere : zNL := (21, [(0, 10), (1, 7), (2, 4), (4, 1), (17, 1)], [(1, 7, 1, 0), (1, 7, 0, 1), (1, 7, 2, 2), (1, 7, 3, 3), (4, 1, 6, 4), (4, 1, 7, 5), (1, 7, 4, 6), (4, 1, 0, 7), (4, 1, 9, 8), (4, 1, 10, 9), (4, 1, 8, 10), (2, 4, 8, 11), (1, 7, 6, 12), (1, 7, 7, 13), (2, 4, 7, 14), (2, 4, 14, 15), (2, 4, 10, 16), (17, 1, 6, 17)], [(2, 4, 12, 3), (4, 1, 1, 5), (4, 1, 2, 6), (4, 1, 3, 7), (2, 4, 3, 8), (2, 4, 5, 9), (2, 4, 6, 10), (2, 4, 0, 11), (2, 4, 13, 12), (2, 4, 1, 13), (0, 10, 0, 14), (0, 10, 1, 15), (0, 10, 4, 16), (0, 10, 6, 17), (17, 1, 1, 18), (17, 1, 2, 19), (17, 1, 3, 20)], [(3, 0, 13, 0), (5, 0, 24, 1), (6, 0, 24, 2), (7, 0, 24, 3), (8, 0, 14, 4), (9, 0, 14, 5), (10, 0, 14, 6), (11, 0, 200, 7), (12, 0, 40, 8), (13, 0, 200, 9), (14, 0, 288, 10), (15, 2, 288, 11), (16, 0, 24, 12), (18, 0, 24, 13), (19, 0, 24, 14), (20, 0, 24, 15)])
theorem zyw_Patches_lookEverywhere : zv_wf zy_Patches_lookEverywhere = true := by decide +kernel
theorem zye_Patches_lookEverywhere : zv_ek2 zy_Patches_lookEverywhere = true := by decide +kernel
def zf_Patches_lookEverywhere_l1_b (x2 : Int) (x3 : Int) (g12 : (Int → Int)) (rec : Int → (Int → Int) → Option ((Int → Int))) (x4 : Int) (g11 : (Int → Int)) : Option ((Int → Int)) := if x4 < x3 then (cond (zi_ix x2 288) (cond (zi_ix x4 24) (rec (zi_w (x4 + 1)) (zv_up g11 x2 (((zi_lor ((g11 x2).toNat) (zi_lshl 1 (zi_ush (zi_w ((g12 x4) * (-1640531535))) 26))) : Nat) : Int))) none) none) else (some g11)
def zf_Patches_lookEverywhere_l1 (x2 : Int) (x3 : Int) (g12 : (Int → Int)) : Nat → Int → (Int → Int) → Option ((Int → Int))
  | 0, _, _ => none
  | n + 1, x4, g11 => zf_Patches_lookEverywhere_l1_b x2 x3 g12 (zf_Patches_lookEverywhere_l1 x2 x3 g12 n) x4 g11
def zf_Patches_lookEverywhere_l0_b (f4 : Int) (f5 : Int) (f7 : Int) (f8 : Int) (f9 : Int) (f10 : Int) (f11 : Int) (f14 : Int) (f16 : Int) (f17 : Int) (g1 : (Int → Int)) (g2 : (Int → Int)) (g3 : (Int → Int)) (g4 : (Int → Int)) (g5 : (Int → Int)) (g6 : (Int → Int)) (g7 : (Int → Int)) (g9 : (Int → Int)) (g13 : (Int → Int)) (g14 : (Int → Int)) (g15 : (Int → Int)) (rec : Int → Int → Int → Int → Int → Int → Int → (Int → Int) → (Int → Int) → (Int → Int) → (Int → Int) → (Int → Int) → Option (Int × Int × Int × Int × Int × Int × (Int → Int) × (Int → Int) × (Int → Int) × (Int → Int) × (Int → Int))) (x2 : Int) (f2 : Int) (f3 : Int) (f6 : Int) (f12 : Int) (f13 : Int) (f15 : Int) (g0 : (Int → Int)) (g8 : (Int → Int)) (g10 : (Int → Int)) (g11 : (Int → Int)) (g12 : (Int → Int)) : Option (Int × Int × Int × Int × Int × Int × (Int → Int) × (Int → Int) × (Int → Int) × (Int → Int) × (Int → Int)) := if x2 < 288 then ((zf_X_columnOf x2).bind fun r2 => ((zf_X_rowOf x2).bind fun r3 => ((zf_View_look r2 r3 f2 f3 f4 f5 f6 f7 f8 f9 f10 f11 f12 f13 f14 f15 f16 g0 g1 g2 g3 g4 g5 g6 g7 g8 g9).bind fun r4 => (cond (zi_ix x2 288) ((zf_Patches_fillParts_24 r4.2.2.1 x2 f17 g12 g13 g14 g15).bind fun r6 => ((zf_Patches_lookEverywhere_l1 x2 r6.1 r6.2 zi_fu 0 (zv_up g11 x2 ((0 : Nat) : Int))).bind fun q10 => (rec (zi_w (x2 + 1)) r4.1 r4.2.1 r4.2.2.1 r4.2.2.2.1 r4.2.2.2.2.1 r4.2.2.2.2.2.1 r4.2.2.2.2.2.2.1 r4.2.2.2.2.2.2.2 (zv_up g10 x2 r4.2.2.1) q10 r6.2))) none)))) else (some (f2, f3, f6, f12, f13, f15, g0, g8, g10, g11, g12))
def zf_Patches_lookEverywhere_l0 (f4 : Int) (f5 : Int) (f7 : Int) (f8 : Int) (f9 : Int) (f10 : Int) (f11 : Int) (f14 : Int) (f16 : Int) (f17 : Int) (g1 : (Int → Int)) (g2 : (Int → Int)) (g3 : (Int → Int)) (g4 : (Int → Int)) (g5 : (Int → Int)) (g6 : (Int → Int)) (g7 : (Int → Int)) (g9 : (Int → Int)) (g13 : (Int → Int)) (g14 : (Int → Int)) (g15 : (Int → Int)) : Nat → Int → Int → Int → Int → Int → Int → Int → (Int → Int) → (Int → Int) → (Int → Int) → (Int → Int) → (Int → Int) → Option (Int × Int × Int × Int × Int × Int × (Int → Int) × (Int → Int) × (Int → Int) × (Int → Int) × (Int → Int))
  | 0, _, _, _, _, _, _, _, _, _, _, _, _ => none
  | n + 1, x2, f2, f3, f6, f12, f13, f15, g0, g8, g10, g11, g12 => zf_Patches_lookEverywhere_l0_b f4 f5 f7 f8 f9 f10 f11 f14 f16 f17 g1 g2 g3 g4 g5 g6 g7 g9 g13 g14 g15 (zf_Patches_lookEverywhere_l0 f4 f5 f7 f8 f9 f10 f11 f14 f16 f17 g1 g2 g3 g4 g5 g6 g7 g9 g13 g14 g15 n) x2 f2 f3 f6 f12 f13 f15 g0 g8 g10 g11 g12
def zf_Patches_lookEverywhere (f2 : Int) (f3 : Int) (f4 : Int) (f5 : Int) (f6 : Int) (f7 : Int) (f8 : Int) (f9 : Int) (f10 : Int) (f11 : Int) (f12 : Int) (f13 : Int) (f14 : Int) (f15 : Int) (f16 : Int) (f17 : Int) (g0 : (Int → Int)) (g1 : (Int → Int)) (g2 : (Int → Int)) (g3 : (Int → Int)) (g4 : (Int → Int)) (g5 : (Int → Int)) (g6 : (Int → Int)) (g7 : (Int → Int)) (g8 : (Int → Int)) (g9 : (Int → Int)) (g10 : (Int → Int)) (g11 : (Int → Int)) (g12 : (Int → Int)) (g13 : (Int → Int)) (g14 : (Int → Int)) (g15 : (Int → Int)) : Option (Int × Int × Int × Int × Int × Int × (Int → Int) × (Int → Int) × (Int → Int) × (Int → Int) × (Int → Int)) := (zf_Patches_lookEverywhere_l0 f4 f5 f7 f8 f9 f10 f11 f14 f16 f17 g1 g2 g3 g4 g5 g6 g7 g9 g13 g14 g15 zi_fu 0 f2 f3 f6 f12 f13 f15 g0 g8 g10 g11 g12).bind fun q11 => (some (q11.1, q11.2.1, q11.2.2.1, q11.2.2.2.1, q11.2.2.2.2.1, q11.2.2.2.2.2.1, q11.2.2.2.2.2.2.1, q11.2.2.2.2.2.2.2.1, q11.2.2.2.2.2.2.2.2.1, q11.2.2.2.2.2.2.2.2.2.1, q11.2.2.2.2.2.2.2.2.2.2))
theorem zd127_0 : decode zxm127.2.1 0 = .ok (.iconst 0, 1) := by decide +kernel
theorem zd127_1 : decode zxm127.2.1 1 = .ok (.istore_n 2, 1) := by decide +kernel
theorem zd127_2 : decode zxm127.2.1 2 = .ok (.iload_n 2, 1) := by decide +kernel
theorem zd127_3 : decode zxm127.2.1 3 = .ok (.sipush 288, 3) := by decide +kernel
theorem zd127_6 : decode zxm127.2.1 6 = .ok (.if_icmp .ge 91, 3) := by decide +kernel
theorem zd127_9 : decode zxm127.2.1 9 = .ok (.aload_n 1, 1) := by decide +kernel
theorem zd127_10 : decode zxm127.2.1 10 = .ok (.iload_n 2, 1) := by decide +kernel
theorem zd127_11 : decode zxm127.2.1 11 = .ok (.invokestatic 36, 3) := by decide +kernel
theorem zd127_14 : decode zxm127.2.1 14 = .ok (.iload_n 2, 1) := by decide +kernel
theorem zd127_15 : decode zxm127.2.1 15 = .ok (.invokestatic 40, 3) := by decide +kernel
theorem zd127_18 : decode zxm127.2.1 18 = .ok (.invokevirtual 43, 3) := by decide +kernel
theorem zd127_21 : decode zxm127.2.1 21 = .ok (.aload_n 0, 1) := by decide +kernel
theorem zd127_22 : decode zxm127.2.1 22 = .ok (.getfield 9, 3) := by decide +kernel
theorem zd127_25 : decode zxm127.2.1 25 = .ok (.iload_n 2, 1) := by decide +kernel
theorem zd127_26 : decode zxm127.2.1 26 = .ok (.aload_n 1, 1) := by decide +kernel
theorem zd127_27 : decode zxm127.2.1 27 = .ok (.getfield 49, 3) := by decide +kernel
theorem zd127_30 : decode zxm127.2.1 30 = .ok (.iastore, 1) := by decide +kernel
theorem zd127_31 : decode zxm127.2.1 31 = .ok (.aload_n 0, 1) := by decide +kernel
theorem zd127_32 : decode zxm127.2.1 32 = .ok (.getfield 15, 3) := by decide +kernel
theorem zd127_35 : decode zxm127.2.1 35 = .ok (.iload_n 2, 1) := by decide +kernel
theorem zd127_36 : decode zxm127.2.1 36 = .ok (.lconst 0, 1) := by decide +kernel
theorem zd127_37 : decode zxm127.2.1 37 = .ok (.lastore, 1) := by decide +kernel
theorem zd127_38 : decode zxm127.2.1 38 = .ok (.aload_n 0, 1) := by decide +kernel
theorem zd127_39 : decode zxm127.2.1 39 = .ok (.aload_n 1, 1) := by decide +kernel
theorem zd127_40 : decode zxm127.2.1 40 = .ok (.getfield 49, 3) := by decide +kernel
theorem zd127_43 : decode zxm127.2.1 43 = .ok (.iload_n 2, 1) := by decide +kernel
theorem zd127_44 : decode zxm127.2.1 44 = .ok (.aload_n 0, 1) := by decide +kernel
theorem zd127_45 : decode zxm127.2.1 45 = .ok (.getfield 26, 3) := by decide +kernel
theorem zd127_48 : decode zxm127.2.1 48 = .ok (.invokevirtual 52, 3) := by decide +kernel
theorem zd127_51 : decode zxm127.2.1 51 = .ok (.istore_n 3, 1) := by decide +kernel
theorem zd127_52 : decode zxm127.2.1 52 = .ok (.iconst 0, 1) := by decide +kernel
theorem zd127_53 : decode zxm127.2.1 53 = .ok (.istore 4, 2) := by decide +kernel
theorem zd127_55 : decode zxm127.2.1 55 = .ok (.iload 4, 2) := by decide +kernel
theorem zd127_57 : decode zxm127.2.1 57 = .ok (.iload_n 3, 1) := by decide +kernel
theorem zd127_58 : decode zxm127.2.1 58 = .ok (.if_icmp .ge 33, 3) := by decide +kernel
theorem zd127_61 : decode zxm127.2.1 61 = .ok (.aload_n 0, 1) := by decide +kernel
theorem zd127_62 : decode zxm127.2.1 62 = .ok (.getfield 15, 3) := by decide +kernel
theorem zd127_65 : decode zxm127.2.1 65 = .ok (.iload_n 2, 1) := by decide +kernel
theorem zd127_66 : decode zxm127.2.1 66 = .ok (.dup2, 1) := by decide +kernel
theorem zd127_67 : decode zxm127.2.1 67 = .ok (.laload, 1) := by decide +kernel
theorem zd127_68 : decode zxm127.2.1 68 = .ok (.lconst 1, 1) := by decide +kernel
theorem zd127_69 : decode zxm127.2.1 69 = .ok (.aload_n 0, 1) := by decide +kernel
theorem zd127_70 : decode zxm127.2.1 70 = .ok (.getfield 26, 3) := by decide +kernel
theorem zd127_73 : decode zxm127.2.1 73 = .ok (.iload 4, 2) := by decide +kernel
theorem zd127_75 : decode zxm127.2.1 75 = .ok (.iaload, 1) := by decide +kernel
theorem zd127_76 : decode zxm127.2.1 76 = .ok (.ldc 56, 2) := by decide +kernel
theorem zd127_78 : decode zxm127.2.1 78 = .ok (.imul, 1) := by decide +kernel
theorem zd127_79 : decode zxm127.2.1 79 = .ok (.bipush 26, 2) := by decide +kernel
theorem zd127_81 : decode zxm127.2.1 81 = .ok (.iushr, 1) := by decide +kernel
theorem zd127_82 : decode zxm127.2.1 82 = .ok (.lshl, 1) := by decide +kernel
theorem zd127_83 : decode zxm127.2.1 83 = .ok (.lor, 1) := by decide +kernel
theorem zd127_84 : decode zxm127.2.1 84 = .ok (.lastore, 1) := by decide +kernel
theorem zd127_85 : decode zxm127.2.1 85 = .ok (.iinc 4 1, 3) := by decide +kernel
theorem zd127_88 : decode zxm127.2.1 88 = .ok (.goto (-33), 3) := by decide +kernel
theorem zd127_91 : decode zxm127.2.1 91 = .ok (.iinc 2 1, 3) := by decide +kernel
theorem zd127_94 : decode zxm127.2.1 94 = .ok (.goto (-92), 3) := by decide +kernel
theorem zd127_97 : decode zxm127.2.1 97 = .ok (.return_, 1) := by decide +kernel
theorem zt_Patches_lookEverywhere {f2 : Int} {f3 : Int} {f4 : Int} {f5 : Int} {f6 : Int} {f7 : Int} {f8 : Int} {f9 : Int} {f10 : Int} {f11 : Int} {f12 : Int} {f13 : Int} {f14 : Int} {f15 : Int} {f16 : Int} {f17 : Int} {g0 : (Int → Int)} {g1 : (Int → Int)} {g2 : (Int → Int)} {g3 : (Int → Int)} {g4 : (Int → Int)} {g5 : (Int → Int)} {g6 : (Int → Int)} {g7 : (Int → Int)} {g8 : (Int → Int)} {g9 : (Int → Int)} {g10 : (Int → Int)} {g11 : (Int → Int)} {g12 : (Int → Int)} {g13 : (Int → Int)} {g14 : (Int → Int)} {g15 : (Int → Int)} {o : Int × Int × Int × Int × Int × Int × (Int → Int) × (Int → Int) × (Int → Int) × (Int → Int) × (Int → Int)} (h : zf_Patches_lookEverywhere f2 f3 f4 f5 f6 f7 f8 f9 f10 f11 f12 f13 f14 f15 f16 f17 g0 g1 g2 g3 g4 g5 g6 g7 g8 g9 g10 g11 g12 g13 g14 g15 = some o) : zv_Fn z_TB z_cl z_KX zy_Patches_lookEverywhere zxm127 (5, 300) [.inr 0, .inr 1] [.inr 2, .inr 4, .inl f2, .inl f3, .inl f4, .inl f5, .inl f6, .inl f7, .inl f8, .inl f9, .inl f10, .inl f11, .inl f12, .inl f13, .inl f14, .inl f15, .inl f16, .inl f17] [g0, g1, g2, g3, g4, g5, g6, g7, g8, g9, g10, g11, g12, g13, g14, g15] none [.inr 2, .inr 4, .inl o.1, .inl o.2.1, .inl f4, .inl f5, .inl o.2.2.1, .inl f7, .inl f8, .inl f9, .inl f10, .inl f11, .inl o.2.2.2.1, .inl o.2.2.2.2.1, .inl f14, .inl o.2.2.2.2.2.1, .inl f16, .inl f17] [o.2.2.2.2.2.2.1, g1, g2, g3, g4, g5, g6, g7, o.2.2.2.2.2.2.2.1, g9, o.2.2.2.2.2.2.2.2.1, o.2.2.2.2.2.2.2.2.2.1, o.2.2.2.2.2.2.2.2.2.2, g13, g14, g15] := zv_meth (K := (z_KF5, z_KC5, z_KL5, z_KT5, [], [], [], none)) (FT := z_FT) (MT := z_MT) (n := 2) zxp127 (z_ks5 _ (fun _ h => List.mem_cons_of_mem _ h) _ _ _ _ (fun j r h _ => by cases h)) (fun _ _ => zs_KX_p) zyw_Patches_lookEverywhere (fun va F G h => by obtain ⟨rfl, _⟩ := h; rfl) (fun va F G h => by obtain ⟨rfl, _⟩ := h; rfl) rfl fun good va F G hB hret hvret hP => by
  obtain ⟨rfl, rfl, rfl⟩ := hP
  have l1 : ∀ (n : Nat) (x2 : Int) (x3 : Int) (x4 : Int) (f2 : Int) (f3 : Int) (f6 : Int) (f12 : Int) (f13 : Int) (f15 : Int) (g0 : (Int → Int)) (g8 : (Int → Int)) (g10 : (Int → Int)) (g11 : (Int → Int)) (g12 : (Int → Int)) (q : (Int → Int)), zf_Patches_lookEverywhere_l1 x2 x3 g12 n x4 g11 = some q → (good 91 [.inr 0, .inr 1, .inl x2, .inr 1000, .inr 1000] [] [.inr 2, .inr 4, .inl f2, .inl f3, .inl f4, .inl f5, .inl f6, .inl f7, .inl f8, .inl f9, .inl f10, .inl f11, .inl f12, .inl f13, .inl f14, .inl f15, .inl f16, .inl f17] [g0, g1, g2, g3, g4, g5, g6, g7, g8, g9, g10, q, g12, g13, g14, g15]) → good 55 [.inr 0, .inr 1, .inl x2, .inl x3, .inl x4] [] [.inr 2, .inr 4, .inl f2, .inl f3, .inl f4, .inl f5, .inl f6, .inl f7, .inl f8, .inl f9, .inl f10, .inl f11, .inl f12, .inl f13, .inl f14, .inl f15, .inl f16, .inl f17] [g0, g1, g2, g3, g4, g5, g6, g7, g8, g9, g10, g11, g12, g13, g14, g15] := by
    intro n
    induction n with
    | zero => intro x2 x3 x4 f2 f3 f6 f12 f13 f15 g0 g8 g10 g11 g12 q h; exact absurd (show none = some q from h) (fun h => by cases h)
    | succ n ih =>
      intro x2 x3 x4 f2 f3 f6 f12 f13 f15 g0 g8 g10 g11 g12 q h hK
      replace h : zf_Patches_lookEverywhere_l1_b x2 x3 g12 (zf_Patches_lookEverywhere_l1 x2 x3 g12 n) x4 g11 = some q := h
      unfold zf_Patches_lookEverywhere_l1_b at h
      refine zv_ild hB zd127_55 rfl rfl ?_
      refine zv_ild hB zd127_57 rfl rfl ?_
      refine zv_cge hB zd127_58 rfl (fun hc7 => ?_) (fun hc7 => ?_)
      · rw [if_neg (Int.not_lt.mpr hc7)] at h
        have hq := Option.some.inj h
        subst hq
        refine zv_wk hB (L' := [.inr 0, .inr 1, .inl x2, .inr 1000, .inr 1000]) (F' := [.inr 2, .inr 4, .inl f2, .inl f3, .inl f4, .inl f5, .inl f6, .inl f7, .inl f8, .inl f9, .inl f10, .inl f11, .inl f12, .inl f13, .inl f14, .inl f15, .inl f16, .inl f17]) ⟨fun _ => rfl, fun _ => rfl, fun _ => rfl, fun (h : zv_is (.inr 1000)) => (Nat.lt_irrefl 1000 h).elim, fun (h : zv_is (.inr 1000)) => (Nat.lt_irrefl 1000 h).elim, trivial⟩ ⟨fun _ => rfl, fun _ => rfl, fun _ => rfl, fun _ => rfl, fun _ => rfl, fun _ => rfl, fun _ => rfl, fun _ => rfl, fun _ => rfl, fun _ => rfl, fun _ => rfl, fun _ => rfl, fun _ => rfl, fun _ => rfl, fun _ => rfl, fun _ => rfl, fun _ => rfl, fun _ => rfl, trivial⟩ ?_
        exact hK
      · rw [if_pos hc7] at h
        refine zv_ald hB zd127_61 rfl rfl rfl ?_
        refine zv_getr hB zd127_62 rfl ?_
        refine zv_ild hB zd127_65 rfl rfl ?_
        refine zv_dup2 hB zd127_66 rfl rfl ?_
        obtain ⟨c8, h⟩ := zi_if h
        refine zv_lald hB zd127_67 rfl rfl (zi_ix_ok c8).1 (zi_ix_ok c8).2 ?_
        refine zv_lcon hB zd127_68 ?_
        refine zv_ald hB zd127_69 rfl rfl rfl ?_
        refine zv_getr hB zd127_70 rfl ?_
        refine zv_ild hB zd127_73 rfl rfl ?_
        obtain ⟨c9, h⟩ := zi_if h
        refine zv_iald hB zd127_75 rfl rfl (zi_ix_ok c9).1 (zi_ix_ok c9).2 (fun _ _ => ?_)
        refine zv_con (n := (-1640531535)) hB zd127_76 (by decide +kernel) ?_
        refine zv_mulw hB zd127_78 ?_
        refine zv_con hB zd127_79 rfl ?_
        refine zv_ushw hB zd127_81 ?_
        refine zv_lshlw hB zd127_82 ?_
        refine zv_lorw hB zd127_83 ?_
        refine zv_last hB zd127_84 rfl rfl (zi_ix_ok c8).1 (zi_ix_ok c8).2 ?_
        refine zv_iincw hB zd127_85 rfl rfl ?_
        refine zv_goto hB zd127_88 rfl ?_
        exact ih _ _ _ _ _ _ _ _ _ _ _ _ _ _ q h hK
  have l0 : ∀ (n : Nat) (x2 : Int) (f2 : Int) (f3 : Int) (f6 : Int) (f12 : Int) (f13 : Int) (f15 : Int) (g0 : (Int → Int)) (g8 : (Int → Int)) (g10 : (Int → Int)) (g11 : (Int → Int)) (g12 : (Int → Int)) (q : Int × Int × Int × Int × Int × Int × (Int → Int) × (Int → Int) × (Int → Int) × (Int → Int) × (Int → Int)), zf_Patches_lookEverywhere_l0 f4 f5 f7 f8 f9 f10 f11 f14 f16 f17 g1 g2 g3 g4 g5 g6 g7 g9 g13 g14 g15 n x2 f2 f3 f6 f12 f13 f15 g0 g8 g10 g11 g12 = some q → (good 97 [.inr 1000, .inr 1000, .inr 1000, .inr 1000, .inr 1000] [] [.inr 2, .inr 4, .inl q.1, .inl q.2.1, .inl f4, .inl f5, .inl q.2.2.1, .inl f7, .inl f8, .inl f9, .inl f10, .inl f11, .inl q.2.2.2.1, .inl q.2.2.2.2.1, .inl f14, .inl q.2.2.2.2.2.1, .inl f16, .inl f17] [q.2.2.2.2.2.2.1, g1, g2, g3, g4, g5, g6, g7, q.2.2.2.2.2.2.2.1, g9, q.2.2.2.2.2.2.2.2.1, q.2.2.2.2.2.2.2.2.2.1, q.2.2.2.2.2.2.2.2.2.2, g13, g14, g15]) → good 2 [.inr 0, .inr 1, .inl x2, .inr 1000, .inr 1000] [] [.inr 2, .inr 4, .inl f2, .inl f3, .inl f4, .inl f5, .inl f6, .inl f7, .inl f8, .inl f9, .inl f10, .inl f11, .inl f12, .inl f13, .inl f14, .inl f15, .inl f16, .inl f17] [g0, g1, g2, g3, g4, g5, g6, g7, g8, g9, g10, g11, g12, g13, g14, g15] := by
    intro n
    induction n with
    | zero => intro x2 f2 f3 f6 f12 f13 f15 g0 g8 g10 g11 g12 q h; exact absurd (show none = some q from h) (fun h => by cases h)
    | succ n ih =>
      intro x2 f2 f3 f6 f12 f13 f15 g0 g8 g10 g11 g12 q h hK
      replace h : zf_Patches_lookEverywhere_l0_b f4 f5 f7 f8 f9 f10 f11 f14 f16 f17 g1 g2 g3 g4 g5 g6 g7 g9 g13 g14 g15 (zf_Patches_lookEverywhere_l0 f4 f5 f7 f8 f9 f10 f11 f14 f16 f17 g1 g2 g3 g4 g5 g6 g7 g9 g13 g14 g15 n) x2 f2 f3 f6 f12 f13 f15 g0 g8 g10 g11 g12 = some q := h
      unfold zf_Patches_lookEverywhere_l0_b at h
      refine zv_ild hB zd127_2 rfl rfl ?_
      refine zv_con hB zd127_3 rfl ?_
      refine zv_cge hB zd127_6 rfl (fun hc1 => ?_) (fun hc1 => ?_)
      · rw [if_neg (Int.not_lt.mpr hc1)] at h
        have hq := Option.some.inj h
        subst hq
        refine zv_wk hB (L' := [.inr 1000, .inr 1000, .inr 1000, .inr 1000, .inr 1000]) (F' := [.inr 2, .inr 4, .inl f2, .inl f3, .inl f4, .inl f5, .inl f6, .inl f7, .inl f8, .inl f9, .inl f10, .inl f11, .inl f12, .inl f13, .inl f14, .inl f15, .inl f16, .inl f17]) ⟨fun (h : zv_is (.inr 1000)) => (Nat.lt_irrefl 1000 h).elim, fun (h : zv_is (.inr 1000)) => (Nat.lt_irrefl 1000 h).elim, fun (h : zv_is (.inr 1000)) => (Nat.lt_irrefl 1000 h).elim, fun (h : zv_is (.inr 1000)) => (Nat.lt_irrefl 1000 h).elim, fun (h : zv_is (.inr 1000)) => (Nat.lt_irrefl 1000 h).elim, trivial⟩ ⟨fun _ => rfl, fun _ => rfl, fun _ => rfl, fun _ => rfl, fun _ => rfl, fun _ => rfl, fun _ => rfl, fun _ => rfl, fun _ => rfl, fun _ => rfl, fun _ => rfl, fun _ => rfl, fun _ => rfl, fun _ => rfl, fun _ => rfl, fun _ => rfl, fun _ => rfl, fun _ => rfl, trivial⟩ ?_
        exact hK
      · rw [if_pos hc1] at h
        refine zv_ald hB zd127_9 rfl rfl rfl ?_
        refine zv_ild hB zd127_10 rfl rfl ?_
        obtain ⟨r2, hr2, h⟩ := zi_bind h
        refine zv_cs hB (zv_emq (va2 := [.inl x2]) (F := [.inr 2, .inr 4, .inl f2, .inl f3, .inl f4, .inl f5, .inl f6, .inl f7, .inl f8, .inl f9, .inl f10, .inl f11, .inl f12, .inl f13, .inl f14, .inl f15, .inl f16, .inl f17]) (F' := [.inr 2, .inr 4, .inl f2, .inl f3, .inl f4, .inl f5, .inl f6, .inl f7, .inl f8, .inl f9, .inl f10, .inl f11, .inl f12, .inl f13, .inl f14, .inl f15, .inl f16, .inl f17]) (G := [g0, g1, g2, g3, g4, g5, g6, g7, g8, g9, g10, g11, g12, g13, g14, g15]) (G' := [g0, g1, g2, g3, g4, g5, g6, g7, g8, g9, g10, g11, g12, g13, g14, g15]) (ρ := []) (φ := []) (ψ := []) [none, none, none, none, none, none, none, none, none, none, none, none, none, none, none, none, none, none] [none, none, none, none, none, none, none, none, none, none, none, none, none, none, none, none] zyw_X_columnOf zyw_Patches_lookEverywhere zye_Patches_lookEverywhere (by decide +kernel) (zt_X_columnOf hr2) trivial trivial rfl rfl rfl rfl rfl rfl rfl) zd127_11 zxt31 rfl (by decide) (by decide) rfl ?_
        refine zv_ild hB zd127_14 rfl rfl ?_
        obtain ⟨r3, hr3, h⟩ := zi_bind h
        refine zv_cs hB (zv_emq (va2 := [.inl x2]) (F := [.inr 2, .inr 4, .inl f2, .inl f3, .inl f4, .inl f5, .inl f6, .inl f7, .inl f8, .inl f9, .inl f10, .inl f11, .inl f12, .inl f13, .inl f14, .inl f15, .inl f16, .inl f17]) (F' := [.inr 2, .inr 4, .inl f2, .inl f3, .inl f4, .inl f5, .inl f6, .inl f7, .inl f8, .inl f9, .inl f10, .inl f11, .inl f12, .inl f13, .inl f14, .inl f15, .inl f16, .inl f17]) (G := [g0, g1, g2, g3, g4, g5, g6, g7, g8, g9, g10, g11, g12, g13, g14, g15]) (G' := [g0, g1, g2, g3, g4, g5, g6, g7, g8, g9, g10, g11, g12, g13, g14, g15]) (ρ := []) (φ := []) (ψ := []) [none, none, none, none, none, none, none, none, none, none, none, none, none, none, none, none, none, none] [none, none, none, none, none, none, none, none, none, none, none, none, none, none, none, none] zyw_X_rowOf zyw_Patches_lookEverywhere zye_Patches_lookEverywhere (by decide +kernel) (zt_X_rowOf hr3) trivial trivial rfl rfl rfl rfl rfl rfl rfl) zd127_15 zxt30 rfl (by decide) (by decide) rfl ?_
        obtain ⟨r4, hr4, h⟩ := zi_bind h
        refine zv_cv hB (zv_emq (va2 := [.inr 1, .inl r2, .inl r3]) (F := [.inr 2, .inr 4, .inl f2, .inl f3, .inl f4, .inl f5, .inl f6, .inl f7, .inl f8, .inl f9, .inl f10, .inl f11, .inl f12, .inl f13, .inl f14, .inl f15, .inl f16, .inl f17]) (F' := [.inr 2, .inr 4, .inl r4.1, .inl r4.2.1, .inl f4, .inl f5, .inl r4.2.2.1, .inl f7, .inl f8, .inl f9, .inl f10, .inl f11, .inl r4.2.2.2.1, .inl r4.2.2.2.2.1, .inl f14, .inl r4.2.2.2.2.2.1, .inl f16, .inl f17]) (G := [g0, g1, g2, g3, g4, g5, g6, g7, g8, g9, g10, g11, g12, g13, g14, g15]) (G' := [r4.2.2.2.2.2.2.1, g1, g2, g3, g4, g5, g6, g7, r4.2.2.2.2.2.2.2, g9, g10, g11, g12, g13, g14, g15]) (ρ := [1, 2, 3, 4, 5, 6, 7, 8, 9, 10, 11, 12, 13]) (φ := [0, 1, 2, 3, 4, 5, 6, 7, 8, 9, 10, 11, 12, 13, 14, 15, 16]) (ψ := [0, 1, 2, 3, 4, 5, 6, 7, 8, 9]) [some 0, some 1, some 2, some 3, some 4, some 5, some 6, some 7, some 8, some 9, some 10, some 11, some 12, some 13, some 14, some 15, some 16, none] [some 0, some 1, some 2, some 3, some 4, some 5, some 6, some 7, some 8, some 9, none, none, none, none, none, none] zyw_View_look zyw_Patches_lookEverywhere zye_Patches_lookEverywhere (by decide +kernel) (zt_View_look hr4) ⟨⟨_, rfl, fun _ => rfl⟩, ⟨_, rfl, fun _ => rfl⟩, ⟨_, rfl, fun _ => rfl⟩, ⟨_, rfl, fun _ => rfl⟩, ⟨_, rfl, fun _ => rfl⟩, ⟨_, rfl, fun _ => rfl⟩, ⟨_, rfl, fun _ => rfl⟩, ⟨_, rfl, fun _ => rfl⟩, ⟨_, rfl, fun _ => rfl⟩, ⟨_, rfl, fun _ => rfl⟩, ⟨_, rfl, fun _ => rfl⟩, ⟨_, rfl, fun _ => rfl⟩, ⟨_, rfl, fun _ => rfl⟩, ⟨_, rfl, fun _ => rfl⟩, ⟨_, rfl, fun _ => rfl⟩, ⟨_, rfl, fun _ => rfl⟩, ⟨_, rfl, fun _ => rfl⟩, trivial⟩ ⟨rfl, rfl, rfl, rfl, rfl, rfl, rfl, rfl, rfl, rfl, trivial⟩ rfl rfl rfl rfl rfl rfl rfl) zd127_18 zxt85 rfl (by decide) (by decide) rfl ?_
        refine zv_ald hB zd127_21 rfl rfl rfl ?_
        refine zv_getr hB zd127_22 rfl ?_
        refine zv_ild hB zd127_25 rfl rfl ?_
        refine zv_ald hB zd127_26 rfl rfl rfl ?_
        refine zv_getf hB zd127_27 rfl rfl (fun _ _ => ?_)
        obtain ⟨c5, h⟩ := zi_if h
        refine zv_iast hB zd127_30 rfl rfl (zi_ix_ok c5).1 (zi_ix_ok c5).2 ?_
        refine zv_ald hB zd127_31 rfl rfl rfl ?_
        refine zv_getr hB zd127_32 rfl ?_
        refine zv_ild hB zd127_35 rfl rfl ?_
        refine zv_lcon hB zd127_36 ?_
        refine zv_last hB zd127_37 rfl rfl (zi_ix_ok c5).1 (zi_ix_ok c5).2 ?_
        refine zv_ald hB zd127_38 rfl rfl rfl ?_
        refine zv_ald hB zd127_39 rfl rfl rfl ?_
        refine zv_getf hB zd127_40 rfl rfl (fun _ _ => ?_)
        refine zv_ild hB zd127_43 rfl rfl ?_
        refine zv_ald hB zd127_44 rfl rfl rfl ?_
        refine zv_getr hB zd127_45 rfl ?_
        obtain ⟨r6, hr6, h⟩ := zi_bind h
        refine zv_cv hB (zv_emq (va2 := [.inr 0, .inl r4.2.2.1, .inl x2, .inr 16]) (F := [.inr 2, .inr 4, .inl r4.1, .inl r4.2.1, .inl f4, .inl f5, .inl r4.2.2.1, .inl f7, .inl f8, .inl f9, .inl f10, .inl f11, .inl r4.2.2.2.1, .inl r4.2.2.2.2.1, .inl f14, .inl r4.2.2.2.2.2.1, .inl f16, .inl f17]) (F' := [.inr 2, .inr 4, .inl r4.1, .inl r4.2.1, .inl f4, .inl f5, .inl r4.2.2.1, .inl f7, .inl f8, .inl f9, .inl f10, .inl f11, .inl r4.2.2.2.1, .inl r4.2.2.2.2.1, .inl f14, .inl r4.2.2.2.2.2.1, .inl f16, .inl f17]) (G := [r4.2.2.2.2.2.2.1, g1, g2, g3, g4, g5, g6, g7, r4.2.2.2.2.2.2.2, g9, (zv_up g10 x2 r4.2.2.1), (zv_up g11 x2 ((0 : Nat) : Int)), g12, g13, g14, g15]) (G' := [r4.2.2.2.2.2.2.1, g1, g2, g3, g4, g5, g6, g7, r4.2.2.2.2.2.2.2, g9, (zv_up g10 x2 r4.2.2.1), (zv_up g11 x2 ((0 : Nat) : Int)), r6.2, g13, g14, g15]) (ρ := [0, 16, 17, 18, 19, 20]) (φ := [17]) (ψ := [12, 13, 14, 15]) [none, none, none, none, none, none, none, none, none, none, none, none, none, none, none, none, none, some 0] [none, none, none, none, none, none, none, none, none, none, none, none, some 0, some 1, some 2, some 3] zyw_Patches_fillParts_24 zyw_Patches_lookEverywhere zye_Patches_lookEverywhere (by decide +kernel) (zt_Patches_fillParts_24 hr6) ⟨⟨_, rfl, fun _ => rfl⟩, trivial⟩ ⟨rfl, rfl, rfl, rfl, trivial⟩ rfl rfl rfl rfl rfl rfl rfl) zd127_48 zxt128 rfl (by decide) (by decide) rfl ?_
        refine zv_ist hB zd127_51 rfl rfl rfl ?_
        refine zv_con hB zd127_52 rfl ?_
        refine zv_ist hB zd127_53 rfl rfl rfl ?_
        obtain ⟨q10, hq10, h⟩ := zi_bind h
        refine l1 _ _ _ _ _ _ _ _ _ _ _ _ _ _ _ q10 hq10 ?_
        show good 91 [.inr 0, .inr 1, .inl x2, .inr 1000, .inr 1000] [] [.inr 2, .inr 4, .inl r4.1, .inl r4.2.1, .inl f4, .inl f5, .inl r4.2.2.1, .inl f7, .inl f8, .inl f9, .inl f10, .inl f11, .inl r4.2.2.2.1, .inl r4.2.2.2.2.1, .inl f14, .inl r4.2.2.2.2.2.1, .inl f16, .inl f17] [r4.2.2.2.2.2.2.1, g1, g2, g3, g4, g5, g6, g7, r4.2.2.2.2.2.2.2, g9, (zv_up g10 x2 r4.2.2.1), q10, r6.2, g13, g14, g15]
        refine zv_iincw hB zd127_91 rfl rfl ?_
        refine zv_goto hB zd127_94 rfl ?_
        exact ih _ _ _ _ _ _ _ _ _ _ _ _ q h hK
  unfold zf_Patches_lookEverywhere at h
  refine zv_con hB zd127_0 rfl ?_
  refine zv_ist hB zd127_1 rfl rfl rfl ?_
  obtain ⟨q11, hq11, h⟩ := zi_bind h
  refine l0 _ _ _ _ _ _ _ _ _ _ _ _ _ q11 hq11 ?_
  show good 97 [.inr 1000, .inr 1000, .inr 1000, .inr 1000, .inr 1000] [] [.inr 2, .inr 4, .inl q11.1, .inl q11.2.1, .inl f4, .inl f5, .inl q11.2.2.1, .inl f7, .inl f8, .inl f9, .inl f10, .inl f11, .inl q11.2.2.2.1, .inl q11.2.2.2.2.1, .inl f14, .inl q11.2.2.2.2.2.1, .inl f16, .inl f17] [q11.2.2.2.2.2.2.1, g1, g2, g3, g4, g5, g6, g7, q11.2.2.2.2.2.2.2.1, g9, q11.2.2.2.2.2.2.2.2.1, q11.2.2.2.2.2.2.2.2.2.1, q11.2.2.2.2.2.2.2.2.2.2, g13, g14, g15]
  have hw := Option.some.inj h
  subst hw
  exact hvret _ _ _ _ zd127_97 trivial ⟨rfl, rfl, rfl⟩
/-! Patches_lookEverywhere_al (LStarTales$View;)V -/
-- names: 0 Patches('arg', 0), 1 View('arg', 1), 2 Law(1, 7, 1), 3 (0, 13)(2, 4, 12), 4 Sky(1, 7, 0), 5 (0, 24)(4, 1, 1), 6 (0, 24)(4, 1, 2), 7 (0, 24)(4, 1, 3), 8 (0, 14)(2, 4, 3), 9 (0, 14)(2, 4, 5), 10 (0, 14)(2, 4, 6), 11 (0, 200)(2, 4, 0), 12 (0, 40)(2, 4, 13), 13 (0, 200)(2, 4, 1), 14 (0, 288)(0, 10, 0), 15 (2, 288)(0, 10, 1), 16 (0, 24)(0, 10, 4)
-- fields: f0 = 1.law_, f1 = 1.sky_, f2 = 1.x_, f3 = 1.y_, f4 = 4.hour_, f5 = 4.night_, f6 = 1.shown_, f7 = 4.told_, f8 = 4.sightColumns_, f9 = 4.sightRows_, f10 = 4.clouds_, f11 = 2.tellsSeen_, f12 = 1.starsAsked_, f13 = 1.starsHold_, f14 = 2.clauses_, f15 = 2.answer_, f16 = 2.seenByPlace_; arrays: g0 = 3, g1 = 5, g2 = 6, g3 = 7, g4 = 8, g5 = 9, g6 = 10, g7 = 11, g8 = 12, g9 = 13, g10 = 14, g11 = 15, g12 = 16; out: [('f', 2), ('f', 3), ('f', 6), ('f', 12), ('f', 13), ('f', 15), ('g', 0), ('g', 8), ('g', 10), ('g', 11), ('g', 12)]
abbrev zy_Patches_lookEverywhere_al : zNL := (17, [(0, 10), (1, 7), (2, 4), (4, 1)], [(1, 7, 1, 0), (1, 7, 0, 1), (1, 7, 2, 2), (1, 7, 3, 3), (4, 1, 6, 4), (4, 1, 7, 5), (1, 7, 4, 6), (4, 1, 0, 7), (4, 1, 9, 8), (4, 1, 10, 9), (4, 1, 8, 10), (2, 4, 8, 11), (1, 7, 6, 12), (1, 7, 7, 13), (2, 4, 7, 14), (2, 4, 14, 15), (2, 4, 10, 16)], [(2, 4, 12, 3), (4, 1, 1, 5), (4, 1, 2, 6), (4, 1, 3, 7), (2, 4, 3, 8), (2, 4, 5, 9), (2, 4, 6, 10), (2, 4, 0, 11), (2, 4, 13, 12), (2, 4, 1, 13), (0, 10, 0, 14), (0, 10, 1, 15), (0, 10, 4, 16), (0, 10, 6, 4)], [(3, 0, 13, 0), (5, 0, 24, 1), (6, 0, 24, 2), (7, 0, 24, 3), (8, 0, 14, 4), (9, 0, 14, 5), (10, 0, 14, 6), (11, 0, 200, 7), (12, 0, 40, 8), (13, 0, 200, 9), (14, 0, 288, 10), (15, 2, 288, 11), (16, 0, 24, 12)])
theorem zyw_Patches_lookEverywhere_al : zv_wf zy_Patches_lookEverywhere_al = true := by decide +kernel
theorem zye_Patches_lookEverywhere_al : zv_ek2 zy_Patches_lookEverywhere_al = true := by decide +kernel
def zf_Patches_lookEverywhere_al_l1_b (x2 : Int) (x3 : Int) (g12 : (Int → Int)) (rec : Int → (Int → Int) → Option ((Int → Int))) (x4 : Int) (g11 : (Int → Int)) : Option ((Int → Int)) := if x4 < x3 then (cond (zi_ix x2 288) (cond (zi_ix x4 24) (rec (zi_w (x4 + 1)) (zv_up g11 x2 (((zi_lor ((g11 x2).toNat) (zi_lshl 1 (zi_ush (zi_w ((g12 x4) * (-1640531535))) 26))) : Nat) : Int))) none) none) else (some g11)
def zf_Patches_lookEverywhere_al_l1 (x2 : Int) (x3 : Int) (g12 : (Int → Int)) : Nat → Int → (Int → Int) → Option ((Int → Int))
  | 0, _, _ => none
  | n + 1, x4, g11 => zf_Patches_lookEverywhere_al_l1_b x2 x3 g12 (zf_Patches_lookEverywhere_al_l1 x2 x3 g12 n) x4 g11
def zf_Patches_lookEverywhere_al_l0_b (f4 : Int) (f5 : Int) (f7 : Int) (f8 : Int) (f9 : Int) (f10 : Int) (f11 : Int) (f14 : Int) (f16 : Int) (g1 : (Int → Int)) (g2 : (Int → Int)) (g3 : (Int → Int)) (g4 : (Int → Int)) (g5 : (Int → Int)) (g6 : (Int → Int)) (g7 : (Int → Int)) (g9 : (Int → Int)) (rec : Int → Int → Int → Int → Int → Int → Int → (Int → Int) → (Int → Int) → (Int → Int) → (Int → Int) → (Int → Int) → Option (Int × Int × Int × Int × Int × Int × (Int → Int) × (Int → Int) × (Int → Int) × (Int → Int) × (Int → Int))) (x2 : Int) (f2 : Int) (f3 : Int) (f6 : Int) (f12 : Int) (f13 : Int) (f15 : Int) (g0 : (Int → Int)) (g8 : (Int → Int)) (g10 : (Int → Int)) (g11 : (Int → Int)) (g12 : (Int → Int)) : Option (Int × Int × Int × Int × Int × Int × (Int → Int) × (Int → Int) × (Int → Int) × (Int → Int) × (Int → Int)) := if x2 < 288 then ((zf_X_columnOf x2).bind fun r2 => ((zf_X_rowOf x2).bind fun r3 => ((zf_View_look r2 r3 f2 f3 f4 f5 f6 f7 f8 f9 f10 f11 f12 f13 f14 f15 f16 g0 g1 g2 g3 g4 g5 g6 g7 g8 g9).bind fun r4 => (cond (zi_ix x2 288) ((zf_Patches_fillParts_24 r4.2.2.1 x2 f4 g12 g1 g2 g3).bind fun r6 => ((zf_Patches_lookEverywhere_al_l1 x2 r6.1 r6.2 zi_fu 0 (zv_up g11 x2 ((0 : Nat) : Int))).bind fun q10 => (rec (zi_w (x2 + 1)) r4.1 r4.2.1 r4.2.2.1 r4.2.2.2.1 r4.2.2.2.2.1 r4.2.2.2.2.2.1 r4.2.2.2.2.2.2.1 r4.2.2.2.2.2.2.2 (zv_up g10 x2 r4.2.2.1) q10 r6.2))) none)))) else (some (f2, f3, f6, f12, f13, f15, g0, g8, g10, g11, g12))
def zf_Patches_lookEverywhere_al_l0 (f4 : Int) (f5 : Int) (f7 : Int) (f8 : Int) (f9 : Int) (f10 : Int) (f11 : Int) (f14 : Int) (f16 : Int) (g1 : (Int → Int)) (g2 : (Int → Int)) (g3 : (Int → Int)) (g4 : (Int → Int)) (g5 : (Int → Int)) (g6 : (Int → Int)) (g7 : (Int → Int)) (g9 : (Int → Int)) : Nat → Int → Int → Int → Int → Int → Int → Int → (Int → Int) → (Int → Int) → (Int → Int) → (Int → Int) → (Int → Int) → Option (Int × Int × Int × Int × Int × Int × (Int → Int) × (Int → Int) × (Int → Int) × (Int → Int) × (Int → Int))
  | 0, _, _, _, _, _, _, _, _, _, _, _, _ => none
  | n + 1, x2, f2, f3, f6, f12, f13, f15, g0, g8, g10, g11, g12 => zf_Patches_lookEverywhere_al_l0_b f4 f5 f7 f8 f9 f10 f11 f14 f16 g1 g2 g3 g4 g5 g6 g7 g9 (zf_Patches_lookEverywhere_al_l0 f4 f5 f7 f8 f9 f10 f11 f14 f16 g1 g2 g3 g4 g5 g6 g7 g9 n) x2 f2 f3 f6 f12 f13 f15 g0 g8 g10 g11 g12
def zf_Patches_lookEverywhere_al (f2 : Int) (f3 : Int) (f4 : Int) (f5 : Int) (f6 : Int) (f7 : Int) (f8 : Int) (f9 : Int) (f10 : Int) (f11 : Int) (f12 : Int) (f13 : Int) (f14 : Int) (f15 : Int) (f16 : Int) (g0 : (Int → Int)) (g1 : (Int → Int)) (g2 : (Int → Int)) (g3 : (Int → Int)) (g4 : (Int → Int)) (g5 : (Int → Int)) (g6 : (Int → Int)) (g7 : (Int → Int)) (g8 : (Int → Int)) (g9 : (Int → Int)) (g10 : (Int → Int)) (g11 : (Int → Int)) (g12 : (Int → Int)) : Option (Int × Int × Int × Int × Int × Int × (Int → Int) × (Int → Int) × (Int → Int) × (Int → Int) × (Int → Int)) := (zf_Patches_lookEverywhere_al_l0 f4 f5 f7 f8 f9 f10 f11 f14 f16 g1 g2 g3 g4 g5 g6 g7 g9 zi_fu 0 f2 f3 f6 f12 f13 f15 g0 g8 g10 g11 g12).bind fun q11 => (some (q11.1, q11.2.1, q11.2.2.1, q11.2.2.2.1, q11.2.2.2.2.1, q11.2.2.2.2.2.1, q11.2.2.2.2.2.2.1, q11.2.2.2.2.2.2.2.1, q11.2.2.2.2.2.2.2.2.1, q11.2.2.2.2.2.2.2.2.2.1, q11.2.2.2.2.2.2.2.2.2.2))
theorem zt_Patches_lookEverywhere_al {f2 : Int} {f3 : Int} {f4 : Int} {f5 : Int} {f6 : Int} {f7 : Int} {f8 : Int} {f9 : Int} {f10 : Int} {f11 : Int} {f12 : Int} {f13 : Int} {f14 : Int} {f15 : Int} {f16 : Int} {g0 : (Int → Int)} {g1 : (Int → Int)} {g2 : (Int → Int)} {g3 : (Int → Int)} {g4 : (Int → Int)} {g5 : (Int → Int)} {g6 : (Int → Int)} {g7 : (Int → Int)} {g8 : (Int → Int)} {g9 : (Int → Int)} {g10 : (Int → Int)} {g11 : (Int → Int)} {g12 : (Int → Int)} {o : Int × Int × Int × Int × Int × Int × (Int → Int) × (Int → Int) × (Int → Int) × (Int → Int) × (Int → Int)} (h : zf_Patches_lookEverywhere_al f2 f3 f4 f5 f6 f7 f8 f9 f10 f11 f12 f13 f14 f15 f16 g0 g1 g2 g3 g4 g5 g6 g7 g8 g9 g10 g11 g12 = some o) : zv_Fn z_TB z_cl z_KX zy_Patches_lookEverywhere_al zxm127 (5, 300) [.inr 0, .inr 1] [.inr 2, .inr 4, .inl f2, .inl f3, .inl f4, .inl f5, .inl f6, .inl f7, .inl f8, .inl f9, .inl f10, .inl f11, .inl f12, .inl f13, .inl f14, .inl f15, .inl f16] [g0, g1, g2, g3, g4, g5, g6, g7, g8, g9, g10, g11, g12] none [.inr 2, .inr 4, .inl o.1, .inl o.2.1, .inl f4, .inl f5, .inl o.2.2.1, .inl f7, .inl f8, .inl f9, .inl f10, .inl f11, .inl o.2.2.2.1, .inl o.2.2.2.2.1, .inl f14, .inl o.2.2.2.2.2.1, .inl f16] [o.2.2.2.2.2.2.1, g1, g2, g3, g4, g5, g6, g7, o.2.2.2.2.2.2.2.1, g9, o.2.2.2.2.2.2.2.2.1, o.2.2.2.2.2.2.2.2.2.1, o.2.2.2.2.2.2.2.2.2.2] := zv_meth (K := (z_KF5, z_KC5, z_KL5, z_KT5, [], [], [], none)) (FT := z_FT) (MT := z_MT) (n := 2) zxp127 (z_ks5 _ (fun _ h => List.mem_cons_of_mem _ h) _ _ _ _ (fun j r h _ => by cases h)) (fun _ _ => zs_KX_p) zyw_Patches_lookEverywhere_al (fun va F G h => by obtain ⟨rfl, _⟩ := h; rfl) (fun va F G h => by obtain ⟨rfl, _⟩ := h; rfl) rfl fun good va F G hB hret hvret hP => by
  obtain ⟨rfl, rfl, rfl⟩ := hP
  have l1 : ∀ (n : Nat) (x2 : Int) (x3 : Int) (x4 : Int) (f2 : Int) (f3 : Int) (f6 : Int) (f12 : Int) (f13 : Int) (f15 : Int) (g0 : (Int → Int)) (g8 : (Int → Int)) (g10 : (Int → Int)) (g11 : (Int → Int)) (g12 : (Int → Int)) (q : (Int → Int)), zf_Patches_lookEverywhere_al_l1 x2 x3 g12 n x4 g11 = some q → (good 91 [.inr 0, .inr 1, .inl x2, .inr 1000, .inr 1000] [] [.inr 2, .inr 4, .inl f2, .inl f3, .inl f4, .inl f5, .inl f6, .inl f7, .inl f8, .inl f9, .inl f10, .inl f11, .inl f12, .inl f13, .inl f14, .inl f15, .inl f16] [g0, g1, g2, g3, g4, g5, g6, g7, g8, g9, g10, q, g12]) → good 55 [.inr 0, .inr 1, .inl x2, .inl x3, .inl x4] [] [.inr 2, .inr 4, .inl f2, .inl f3, .inl f4, .inl f5, .inl f6, .inl f7, .inl f8, .inl f9, .inl f10, .inl f11, .inl f12, .inl f13, .inl f14, .inl f15, .inl f16] [g0, g1, g2, g3, g4, g5, g6, g7, g8, g9, g10, g11, g12] := by
    intro n
    induction n with
    | zero => intro x2 x3 x4 f2 f3 f6 f12 f13 f15 g0 g8 g10 g11 g12 q h; exact absurd (show none = some q from h) (fun h => by cases h)
    | succ n ih =>
      intro x2 x3 x4 f2 f3 f6 f12 f13 f15 g0 g8 g10 g11 g12 q h hK
      replace h : zf_Patches_lookEverywhere_al_l1_b x2 x3 g12 (zf_Patches_lookEverywhere_al_l1 x2 x3 g12 n) x4 g11 = some q := h
      unfold zf_Patches_lookEverywhere_al_l1_b at h
      refine zv_ild hB zd127_55 rfl rfl ?_
      refine zv_ild hB zd127_57 rfl rfl ?_
      refine zv_cge hB zd127_58 rfl (fun hc7 => ?_) (fun hc7 => ?_)
      · rw [if_neg (Int.not_lt.mpr hc7)] at h
        have hq := Option.some.inj h
        subst hq
        refine zv_wk hB (L' := [.inr 0, .inr 1, .inl x2, .inr 1000, .inr 1000]) (F' := [.inr 2, .inr 4, .inl f2, .inl f3, .inl f4, .inl f5, .inl f6, .inl f7, .inl f8, .inl f9, .inl f10, .inl f11, .inl f12, .inl f13, .inl f14, .inl f15, .inl f16]) ⟨fun _ => rfl, fun _ => rfl, fun _ => rfl, fun (h : zv_is (.inr 1000)) => (Nat.lt_irrefl 1000 h).elim, fun (h : zv_is (.inr 1000)) => (Nat.lt_irrefl 1000 h).elim, trivial⟩ ⟨fun _ => rfl, fun _ => rfl, fun _ => rfl, fun _ => rfl, fun _ => rfl, fun _ => rfl, fun _ => rfl, fun _ => rfl, fun _ => rfl, fun _ => rfl, fun _ => rfl, fun _ => rfl, fun _ => rfl, fun _ => rfl, fun _ => rfl, fun _ => rfl, fun _ => rfl, trivial⟩ ?_
        exact hK
      · rw [if_pos hc7] at h
        refine zv_ald hB zd127_61 rfl rfl rfl ?_
        refine zv_getr hB zd127_62 rfl ?_
        refine zv_ild hB zd127_65 rfl rfl ?_
        refine zv_dup2 hB zd127_66 rfl rfl ?_
        obtain ⟨c8, h⟩ := zi_if h
        refine zv_lald hB zd127_67 rfl rfl (zi_ix_ok c8).1 (zi_ix_ok c8).2 ?_
        refine zv_lcon hB zd127_68 ?_
        refine zv_ald hB zd127_69 rfl rfl rfl ?_
        refine zv_getr hB zd127_70 rfl ?_
        refine zv_ild hB zd127_73 rfl rfl ?_
        obtain ⟨c9, h⟩ := zi_if h
        refine zv_iald hB zd127_75 rfl rfl (zi_ix_ok c9).1 (zi_ix_ok c9).2 (fun _ _ => ?_)
        refine zv_con (n := (-1640531535)) hB zd127_76 (by decide +kernel) ?_
        refine zv_mulw hB zd127_78 ?_
        refine zv_con hB zd127_79 rfl ?_
        refine zv_ushw hB zd127_81 ?_
        refine zv_lshlw hB zd127_82 ?_
        refine zv_lorw hB zd127_83 ?_
        refine zv_last hB zd127_84 rfl rfl (zi_ix_ok c8).1 (zi_ix_ok c8).2 ?_
        refine zv_iincw hB zd127_85 rfl rfl ?_
        refine zv_goto hB zd127_88 rfl ?_
        exact ih _ _ _ _ _ _ _ _ _ _ _ _ _ _ q h hK
  have l0 : ∀ (n : Nat) (x2 : Int) (f2 : Int) (f3 : Int) (f6 : Int) (f12 : Int) (f13 : Int) (f15 : Int) (g0 : (Int → Int)) (g8 : (Int → Int)) (g10 : (Int → Int)) (g11 : (Int → Int)) (g12 : (Int → Int)) (q : Int × Int × Int × Int × Int × Int × (Int → Int) × (Int → Int) × (Int → Int) × (Int → Int) × (Int → Int)), zf_Patches_lookEverywhere_al_l0 f4 f5 f7 f8 f9 f10 f11 f14 f16 g1 g2 g3 g4 g5 g6 g7 g9 n x2 f2 f3 f6 f12 f13 f15 g0 g8 g10 g11 g12 = some q → (good 97 [.inr 1000, .inr 1000, .inr 1000, .inr 1000, .inr 1000] [] [.inr 2, .inr 4, .inl q.1, .inl q.2.1, .inl f4, .inl f5, .inl q.2.2.1, .inl f7, .inl f8, .inl f9, .inl f10, .inl f11, .inl q.2.2.2.1, .inl q.2.2.2.2.1, .inl f14, .inl q.2.2.2.2.2.1, .inl f16] [q.2.2.2.2.2.2.1, g1, g2, g3, g4, g5, g6, g7, q.2.2.2.2.2.2.2.1, g9, q.2.2.2.2.2.2.2.2.1, q.2.2.2.2.2.2.2.2.2.1, q.2.2.2.2.2.2.2.2.2.2]) → good 2 [.inr 0, .inr 1, .inl x2, .inr 1000, .inr 1000] [] [.inr 2, .inr 4, .inl f2, .inl f3, .inl f4, .inl f5, .inl f6, .inl f7, .inl f8, .inl f9, .inl f10, .inl f11, .inl f12, .inl f13, .inl f14, .inl f15, .inl f16] [g0, g1, g2, g3, g4, g5, g6, g7, g8, g9, g10, g11, g12] := by
    intro n
    induction n with
    | zero => intro x2 f2 f3 f6 f12 f13 f15 g0 g8 g10 g11 g12 q h; exact absurd (show none = some q from h) (fun h => by cases h)
    | succ n ih =>
      intro x2 f2 f3 f6 f12 f13 f15 g0 g8 g10 g11 g12 q h hK
      replace h : zf_Patches_lookEverywhere_al_l0_b f4 f5 f7 f8 f9 f10 f11 f14 f16 g1 g2 g3 g4 g5 g6 g7 g9 (zf_Patches_lookEverywhere_al_l0 f4 f5 f7 f8 f9 f10 f11 f14 f16 g1 g2 g3 g4 g5 g6 g7 g9 n) x2 f2 f3 f6 f12 f13 f15 g0 g8 g10 g11 g12 = some q := h
      unfold zf_Patches_lookEverywhere_al_l0_b at h
      refine zv_ild hB zd127_2 rfl rfl ?_
      refine zv_con hB zd127_3 rfl ?_
      refine zv_cge hB zd127_6 rfl (fun hc1 => ?_) (fun hc1 => ?_)
      · rw [if_neg (Int.not_lt.mpr hc1)] at h
        have hq := Option.some.inj h
        subst hq
        refine zv_wk hB (L' := [.inr 1000, .inr 1000, .inr 1000, .inr 1000, .inr 1000]) (F' := [.inr 2, .inr 4, .inl f2, .inl f3, .inl f4, .inl f5, .inl f6, .inl f7, .inl f8, .inl f9, .inl f10, .inl f11, .inl f12, .inl f13, .inl f14, .inl f15, .inl f16]) ⟨fun (h : zv_is (.inr 1000)) => (Nat.lt_irrefl 1000 h).elim, fun (h : zv_is (.inr 1000)) => (Nat.lt_irrefl 1000 h).elim, fun (h : zv_is (.inr 1000)) => (Nat.lt_irrefl 1000 h).elim, fun (h : zv_is (.inr 1000)) => (Nat.lt_irrefl 1000 h).elim, fun (h : zv_is (.inr 1000)) => (Nat.lt_irrefl 1000 h).elim, trivial⟩ ⟨fun _ => rfl, fun _ => rfl, fun _ => rfl, fun _ => rfl, fun _ => rfl, fun _ => rfl, fun _ => rfl, fun _ => rfl, fun _ => rfl, fun _ => rfl, fun _ => rfl, fun _ => rfl, fun _ => rfl, fun _ => rfl, fun _ => rfl, fun _ => rfl, fun _ => rfl, trivial⟩ ?_
        exact hK
      · rw [if_pos hc1] at h
        refine zv_ald hB zd127_9 rfl rfl rfl ?_
        refine zv_ild hB zd127_10 rfl rfl ?_
        obtain ⟨r2, hr2, h⟩ := zi_bind h
        refine zv_cs hB (zv_emq (va2 := [.inl x2]) (F := [.inr 2, .inr 4, .inl f2, .inl f3, .inl f4, .inl f5, .inl f6, .inl f7, .inl f8, .inl f9, .inl f10, .inl f11, .inl f12, .inl f13, .inl f14, .inl f15, .inl f16]) (F' := [.inr 2, .inr 4, .inl f2, .inl f3, .inl f4, .inl f5, .inl f6, .inl f7, .inl f8, .inl f9, .inl f10, .inl f11, .inl f12, .inl f13, .inl f14, .inl f15, .inl f16]) (G := [g0, g1, g2, g3, g4, g5, g6, g7, g8, g9, g10, g11, g12]) (G' := [g0, g1, g2, g3, g4, g5, g6, g7, g8, g9, g10, g11, g12]) (ρ := []) (φ := []) (ψ := []) [none, none, none, none, none, none, none, none, none, none, none, none, none, none, none, none, none] [none, none, none, none, none, none, none, none, none, none, none, none, none] zyw_X_columnOf zyw_Patches_lookEverywhere_al zye_Patches_lookEverywhere_al (by decide +kernel) (zt_X_columnOf hr2) trivial trivial rfl rfl rfl rfl rfl rfl rfl) zd127_11 zxt31 rfl (by decide) (by decide) rfl ?_
        refine zv_ild hB zd127_14 rfl rfl ?_
        obtain ⟨r3, hr3, h⟩ := zi_bind h
        refine zv_cs hB (zv_emq (va2 := [.inl x2]) (F := [.inr 2, .inr 4, .inl f2, .inl f3, .inl f4, .inl f5, .inl f6, .inl f7, .inl f8, .inl f9, .inl f10, .inl f11, .inl f12, .inl f13, .inl f14, .inl f15, .inl f16]) (F' := [.inr 2, .inr 4, .inl f2, .inl f3, .inl f4, .inl f5, .inl f6, .inl f7, .inl f8, .inl f9, .inl f10, .inl f11, .inl f12, .inl f13, .inl f14, .inl f15, .inl f16]) (G := [g0, g1, g2, g3, g4, g5, g6, g7, g8, g9, g10, g11, g12]) (G' := [g0, g1, g2, g3, g4, g5, g6, g7, g8, g9, g10, g11, g12]) (ρ := []) (φ := []) (ψ := []) [none, none, none, none, none, none, none, none, none, none, none, none, none, none, none, none, none] [none, none, none, none, none, none, none, none, none, none, none, none, none] zyw_X_rowOf zyw_Patches_lookEverywhere_al zye_Patches_lookEverywhere_al (by decide +kernel) (zt_X_rowOf hr3) trivial trivial rfl rfl rfl rfl rfl rfl rfl) zd127_15 zxt30 rfl (by decide) (by decide) rfl ?_
        obtain ⟨r4, hr4, h⟩ := zi_bind h
        refine zv_cv hB (zv_emq (va2 := [.inr 1, .inl r2, .inl r3]) (F := [.inr 2, .inr 4, .inl f2, .inl f3, .inl f4, .inl f5, .inl f6, .inl f7, .inl f8, .inl f9, .inl f10, .inl f11, .inl f12, .inl f13, .inl f14, .inl f15, .inl f16]) (F' := [.inr 2, .inr 4, .inl r4.1, .inl r4.2.1, .inl f4, .inl f5, .inl r4.2.2.1, .inl f7, .inl f8, .inl f9, .inl f10, .inl f11, .inl r4.2.2.2.1, .inl r4.2.2.2.2.1, .inl f14, .inl r4.2.2.2.2.2.1, .inl f16]) (G := [g0, g1, g2, g3, g4, g5, g6, g7, g8, g9, g10, g11, g12]) (G' := [r4.2.2.2.2.2.2.1, g1, g2, g3, g4, g5, g6, g7, r4.2.2.2.2.2.2.2, g9, g10, g11, g12]) (ρ := [1, 2, 3, 4, 5, 6, 7, 8, 9, 10, 11, 12, 13]) (φ := [0, 1, 2, 3, 4, 5, 6, 7, 8, 9, 10, 11, 12, 13, 14, 15, 16]) (ψ := [0, 1, 2, 3, 4, 5, 6, 7, 8, 9]) [some 0, some 1, some 2, some 3, some 4, some 5, some 6, some 7, some 8, some 9, some 10, some 11, some 12, some 13, some 14, some 15, some 16] [some 0, some 1, some 2, some 3, some 4, some 5, some 6, some 7, some 8, some 9, none, none, none] zyw_View_look zyw_Patches_lookEverywhere_al zye_Patches_lookEverywhere_al (by decide +kernel) (zt_View_look hr4) ⟨⟨_, rfl, fun _ => rfl⟩, ⟨_, rfl, fun _ => rfl⟩, ⟨_, rfl, fun _ => rfl⟩, ⟨_, rfl, fun _ => rfl⟩, ⟨_, rfl, fun _ => rfl⟩, ⟨_, rfl, fun _ => rfl⟩, ⟨_, rfl, fun _ => rfl⟩, ⟨_, rfl, fun _ => rfl⟩, ⟨_, rfl, fun _ => rfl⟩, ⟨_, rfl, fun _ => rfl⟩, ⟨_, rfl, fun _ => rfl⟩, ⟨_, rfl, fun _ => rfl⟩, ⟨_, rfl, fun _ => rfl⟩, ⟨_, rfl, fun _ => rfl⟩, ⟨_, rfl, fun _ => rfl⟩, ⟨_, rfl, fun _ => rfl⟩, ⟨_, rfl, fun _ => rfl⟩, trivial⟩ ⟨rfl, rfl, rfl, rfl, rfl, rfl, rfl, rfl, rfl, rfl, trivial⟩ rfl rfl rfl rfl rfl rfl rfl) zd127_18 zxt85 rfl (by decide) (by decide) rfl ?_
        refine zv_ald hB zd127_21 rfl rfl rfl ?_
        refine zv_getr hB zd127_22 rfl ?_
        refine zv_ild hB zd127_25 rfl rfl ?_
        refine zv_ald hB zd127_26 rfl rfl rfl ?_
        refine zv_getf hB zd127_27 rfl rfl (fun _ _ => ?_)
        obtain ⟨c5, h⟩ := zi_if h
        refine zv_iast hB zd127_30 rfl rfl (zi_ix_ok c5).1 (zi_ix_ok c5).2 ?_
        refine zv_ald hB zd127_31 rfl rfl rfl ?_
        refine zv_getr hB zd127_32 rfl ?_
        refine zv_ild hB zd127_35 rfl rfl ?_
        refine zv_lcon hB zd127_36 ?_
        refine zv_last hB zd127_37 rfl rfl (zi_ix_ok c5).1 (zi_ix_ok c5).2 ?_
        refine zv_ald hB zd127_38 rfl rfl rfl ?_
        refine zv_ald hB zd127_39 rfl rfl rfl ?_
        refine zv_getf hB zd127_40 rfl rfl (fun _ _ => ?_)
        refine zv_ild hB zd127_43 rfl rfl ?_
        refine zv_ald hB zd127_44 rfl rfl rfl ?_
        refine zv_getr hB zd127_45 rfl ?_
        obtain ⟨r6, hr6, h⟩ := zi_bind h
        refine zv_cv hB (zv_emq (va2 := [.inr 0, .inl r4.2.2.1, .inl x2, .inr 16]) (F := [.inr 2, .inr 4, .inl r4.1, .inl r4.2.1, .inl f4, .inl f5, .inl r4.2.2.1, .inl f7, .inl f8, .inl f9, .inl f10, .inl f11, .inl r4.2.2.2.1, .inl r4.2.2.2.2.1, .inl f14, .inl r4.2.2.2.2.2.1, .inl f16]) (F' := [.inr 2, .inr 4, .inl r4.1, .inl r4.2.1, .inl f4, .inl f5, .inl r4.2.2.1, .inl f7, .inl f8, .inl f9, .inl f10, .inl f11, .inl r4.2.2.2.1, .inl r4.2.2.2.2.1, .inl f14, .inl r4.2.2.2.2.2.1, .inl f16]) (G := [r4.2.2.2.2.2.2.1, g1, g2, g3, g4, g5, g6, g7, r4.2.2.2.2.2.2.2, g9, (zv_up g10 x2 r4.2.2.1), (zv_up g11 x2 ((0 : Nat) : Int)), g12]) (G' := [r4.2.2.2.2.2.2.1, g1, g2, g3, g4, g5, g6, g7, r4.2.2.2.2.2.2.2, g9, (zv_up g10 x2 r4.2.2.1), (zv_up g11 x2 ((0 : Nat) : Int)), r6.2]) (ρ := [0, 16, 4, 5, 6, 7]) (φ := [4]) (ψ := [12, 1, 2, 3]) [none, none, none, none, some 0, none, none, none, none, none, none, none, none, none, none, none, none] [none, some 1, some 2, some 3, none, none, none, none, none, none, none, none, some 0] zyw_Patches_fillParts_24 zyw_Patches_lookEverywhere_al zye_Patches_lookEverywhere_al (by decide +kernel) (zt_Patches_fillParts_24 hr6) ⟨⟨_, rfl, fun _ => rfl⟩, trivial⟩ ⟨rfl, rfl, rfl, rfl, trivial⟩ rfl rfl rfl rfl rfl rfl rfl) zd127_48 zxt128 rfl (by decide) (by decide) rfl ?_
        refine zv_ist hB zd127_51 rfl rfl rfl ?_
        refine zv_con hB zd127_52 rfl ?_
        refine zv_ist hB zd127_53 rfl rfl rfl ?_
        obtain ⟨q10, hq10, h⟩ := zi_bind h
        refine l1 _ _ _ _ _ _ _ _ _ _ _ _ _ _ _ q10 hq10 ?_
        show good 91 [.inr 0, .inr 1, .inl x2, .inr 1000, .inr 1000] [] [.inr 2, .inr 4, .inl r4.1, .inl r4.2.1, .inl f4, .inl f5, .inl r4.2.2.1, .inl f7, .inl f8, .inl f9, .inl f10, .inl f11, .inl r4.2.2.2.1, .inl r4.2.2.2.2.1, .inl f14, .inl r4.2.2.2.2.2.1, .inl f16] [r4.2.2.2.2.2.2.1, g1, g2, g3, g4, g5, g6, g7, r4.2.2.2.2.2.2.2, g9, (zv_up g10 x2 r4.2.2.1), q10, r6.2]
        refine zv_iincw hB zd127_91 rfl rfl ?_
        refine zv_goto hB zd127_94 rfl ?_
        exact ih _ _ _ _ _ _ _ _ _ _ _ _ q h hK
  unfold zf_Patches_lookEverywhere_al at h
  refine zv_con hB zd127_0 rfl ?_
  refine zv_ist hB zd127_1 rfl rfl rfl ?_
  obtain ⟨q11, hq11, h⟩ := zi_bind h
  refine l0 _ _ _ _ _ _ _ _ _ _ _ _ _ q11 hq11 ?_
  show good 97 [.inr 1000, .inr 1000, .inr 1000, .inr 1000, .inr 1000] [] [.inr 2, .inr 4, .inl q11.1, .inl q11.2.1, .inl f4, .inl f5, .inl q11.2.2.1, .inl f7, .inl f8, .inl f9, .inl f10, .inl f11, .inl q11.2.2.2.1, .inl q11.2.2.2.2.1, .inl f14, .inl q11.2.2.2.2.2.1, .inl f16] [q11.2.2.2.2.2.2.1, g1, g2, g3, g4, g5, g6, g7, q11.2.2.2.2.2.2.2.1, g9, q11.2.2.2.2.2.2.2.2.1, q11.2.2.2.2.2.2.2.2.2.1, q11.2.2.2.2.2.2.2.2.2.2]
  have hw := Option.some.inj h
  subst hw
  exact hvret _ _ _ _ zd127_97 trivial ⟨rfl, rfl, rfl⟩
/-! Patches_hasAll_24_24 ([II[II)Z -/
-- names: 0 (0, 24)('arg', 0), 1 (0, 24)('arg', 2)
-- fields: ; arrays: g0 = 0, g1 = 1; out: [('ret', None)]
abbrev zy_Patches_hasAll_24_24 : zNL := (2, [], [], [], [(0, 0, 24, 0), (1, 0, 24, 1)])
theorem zyw_Patches_hasAll_24_24 : zv_wf zy_Patches_hasAll_24_24 = true := by decide +kernel
theorem zye_Patches_hasAll_24_24 : zv_ek2 zy_Patches_hasAll_24_24 = true := by decide +kernel
def zf_Patches_hasAll_24_24_l1_b (x1 : Int) (x4 : Int) (g0 : (Int → Int)) (g1 : (Int → Int)) (rec : Int → Int → Option (Int)) (x5 : Int) (x6 : Int) : Option (Int) := if x6 < x1 then (if x5 = 0 then (cond (zi_ix x6 24) (cond (zi_ix x4 24) (if (g0 x6) = (g1 x4) then (rec 1 (zi_w (x6 + 1))) else (rec 0 (zi_w (x6 + 1)))) none) none) else (some x5)) else (some x5)
def zf_Patches_hasAll_24_24_l1 (x1 : Int) (x4 : Int) (g0 : (Int → Int)) (g1 : (Int → Int)) : Nat → Int → Int → Option (Int)
  | 0, _, _ => none
  | n + 1, x5, x6 => zf_Patches_hasAll_24_24_l1_b x1 x4 g0 g1 (zf_Patches_hasAll_24_24_l1 x1 x4 g0 g1 n) x5 x6
def zf_Patches_hasAll_24_24_l0_b (x1 : Int) (x3 : Int) (g0 : (Int → Int)) (g1 : (Int → Int)) (rec : Int → Option (((Unit) ⊕ (Int)))) (x4 : Int) : Option (((Unit) ⊕ (Int))) := if x4 < x3 then ((zf_Patches_hasAll_24_24_l1 x1 x4 g0 g1 zi_fu 0 0).bind fun q7 => (if q7 = 0 then (some (.inr 0)) else (rec (zi_w (x4 + 1))))) else (some (.inl ()))
def zf_Patches_hasAll_24_24_l0 (x1 : Int) (x3 : Int) (g0 : (Int → Int)) (g1 : (Int → Int)) : Nat → Int → Option (((Unit) ⊕ (Int)))
  | 0, _ => none
  | n + 1, x4 => zf_Patches_hasAll_24_24_l0_b x1 x3 g0 g1 (zf_Patches_hasAll_24_24_l0 x1 x3 g0 g1 n) x4
def zf_Patches_hasAll_24_24 (x1 : Int) (x3 : Int) (g0 : (Int → Int)) (g1 : (Int → Int)) : Option (Int) := (zf_Patches_hasAll_24_24_l0 x1 x3 g0 g1 zi_fu 0).bind fun q9 => Sum.elim (fun e10 => (some 1)) (fun w11 => some w11) q9
theorem zd134_0 : decode zxm134.2.1 0 = .ok (.iconst 0, 1) := by decide +kernel
theorem zd134_1 : decode zxm134.2.1 1 = .ok (.istore 4, 2) := by decide +kernel
theorem zd134_3 : decode zxm134.2.1 3 = .ok (.iload 4, 2) := by decide +kernel
theorem zd134_5 : decode zxm134.2.1 5 = .ok (.iload_n 3, 1) := by decide +kernel
theorem zd134_6 : decode zxm134.2.1 6 = .ok (.if_icmp .ge 57, 3) := by decide +kernel
theorem zd134_9 : decode zxm134.2.1 9 = .ok (.iconst 0, 1) := by decide +kernel
theorem zd134_10 : decode zxm134.2.1 10 = .ok (.istore 5, 2) := by decide +kernel
theorem zd134_12 : decode zxm134.2.1 12 = .ok (.iconst 0, 1) := by decide +kernel
theorem zd134_13 : decode zxm134.2.1 13 = .ok (.istore 6, 2) := by decide +kernel
theorem zd134_15 : decode zxm134.2.1 15 = .ok (.iload 6, 2) := by decide +kernel
theorem zd134_17 : decode zxm134.2.1 17 = .ok (.iload_n 1, 1) := by decide +kernel
theorem zd134_18 : decode zxm134.2.1 18 = .ok (.if_icmp .ge 32, 3) := by decide +kernel
theorem zd134_21 : decode zxm134.2.1 21 = .ok (.iload 5, 2) := by decide +kernel
theorem zd134_23 : decode zxm134.2.1 23 = .ok (.ifCond .ne 27, 3) := by decide +kernel
theorem zd134_26 : decode zxm134.2.1 26 = .ok (.aload_n 0, 1) := by decide +kernel
theorem zd134_27 : decode zxm134.2.1 27 = .ok (.iload 6, 2) := by decide +kernel
theorem zd134_29 : decode zxm134.2.1 29 = .ok (.iaload, 1) := by decide +kernel
theorem zd134_30 : decode zxm134.2.1 30 = .ok (.aload_n 2, 1) := by decide +kernel
theorem zd134_31 : decode zxm134.2.1 31 = .ok (.iload 4, 2) := by decide +kernel
theorem zd134_33 : decode zxm134.2.1 33 = .ok (.iaload, 1) := by decide +kernel
theorem zd134_34 : decode zxm134.2.1 34 = .ok (.if_icmp .ne 7, 3) := by decide +kernel
theorem zd134_37 : decode zxm134.2.1 37 = .ok (.iconst 1, 1) := by decide +kernel
theorem zd134_38 : decode zxm134.2.1 38 = .ok (.goto 4, 3) := by decide +kernel
theorem zd134_41 : decode zxm134.2.1 41 = .ok (.iconst 0, 1) := by decide +kernel
theorem zd134_42 : decode zxm134.2.1 42 = .ok (.istore 5, 2) := by decide +kernel
theorem zd134_44 : decode zxm134.2.1 44 = .ok (.iinc 6 1, 3) := by decide +kernel
theorem zd134_47 : decode zxm134.2.1 47 = .ok (.goto (-32), 3) := by decide +kernel
theorem zd134_50 : decode zxm134.2.1 50 = .ok (.iload 5, 2) := by decide +kernel
theorem zd134_52 : decode zxm134.2.1 52 = .ok (.ifCond .ne 5, 3) := by decide +kernel
theorem zd134_55 : decode zxm134.2.1 55 = .ok (.iconst 0, 1) := by decide +kernel
theorem zd134_56 : decode zxm134.2.1 56 = .ok (.ireturn, 1) := by decide +kernel
theorem zd134_57 : decode zxm134.2.1 57 = .ok (.iinc 4 1, 3) := by decide +kernel
theorem zd134_60 : decode zxm134.2.1 60 = .ok (.goto (-57), 3) := by decide +kernel
theorem zd134_63 : decode zxm134.2.1 63 = .ok (.iconst 1, 1) := by decide +kernel
theorem zd134_64 : decode zxm134.2.1 64 = .ok (.ireturn, 1) := by decide +kernel
theorem zt_Patches_hasAll_24_24 {x1 : Int} {x3 : Int} {g0 : (Int → Int)} {g1 : (Int → Int)} {o : Int} (h : zf_Patches_hasAll_24_24 x1 x3 g0 g1 = some o) : zv_Fn z_TB z_cl z_KX zy_Patches_hasAll_24_24 zxm134 (0, 0) [.inr 0, .inl x1, .inr 1, .inl x3] [] [g0, g1] (some o) [] [g0, g1] := zv_meth (K := (z_KF5, z_KC5, z_KL5, z_KT5, [], [], [], none)) (FT := z_FT) (MT := z_MT) (n := 4) zxp134 (z_ks5 _ (fun _ h => List.mem_cons_of_mem _ h) _ _ _ _ (fun j r h _ => by cases h)) (fun _ _ => zs_KX_p) zyw_Patches_hasAll_24_24 (fun va F G h => by obtain ⟨rfl, _⟩ := h; rfl) (fun va F G h => by obtain ⟨rfl, _⟩ := h; rfl) rfl fun good va F G hB hret hvret hP => by
  obtain ⟨rfl, rfl, rfl⟩ := hP
  have l1 : ∀ (n : Nat) (x1 : Int) (x3 : Int) (x4 : Int) (x5 : Int) (x6 : Int) (q : Int), zf_Patches_hasAll_24_24_l1 x1 x4 g0 g1 n x5 x6 = some q → (good 50 [.inr 0, .inl x1, .inr 1, .inl x3, .inl x4, .inl q, .inr 1000] [] [] [g0, g1]) → good 15 [.inr 0, .inl x1, .inr 1, .inl x3, .inl x4, .inl x5, .inl x6] [] [] [g0, g1] := by
    intro n
    induction n with
    | zero => intro x1 x3 x4 x5 x6 q h; exact absurd (show none = some q from h) (fun h => by cases h)
    | succ n ih =>
      intro x1 x3 x4 x5 x6 q h hK
      replace h : zf_Patches_hasAll_24_24_l1_b x1 x4 g0 g1 (zf_Patches_hasAll_24_24_l1 x1 x4 g0 g1 n) x5 x6 = some q := h
      unfold zf_Patches_hasAll_24_24_l1_b at h
      refine zv_ild hB zd134_15 rfl rfl ?_
      refine zv_ild hB zd134_17 rfl rfl ?_
      refine zv_cge hB zd134_18 rfl (fun hc2 => ?_) (fun hc2 => ?_)
      · rw [if_neg (Int.not_lt.mpr hc2)] at h
        have hq := Option.some.inj h
        subst hq
        refine zv_wk hB (L' := [.inr 0, .inl x1, .inr 1, .inl x3, .inl x4, .inl x5, .inr 1000]) (F' := []) ⟨fun _ => rfl, fun _ => rfl, fun _ => rfl, fun _ => rfl, fun _ => rfl, fun _ => rfl, fun (h : zv_is (.inr 1000)) => (Nat.lt_irrefl 1000 h).elim, trivial⟩ trivial ?_
        exact hK
      · rw [if_pos hc2] at h
        refine zv_ild hB zd134_21 rfl rfl ?_
        refine zv_zne hB zd134_23 rfl (fun hc3 => ?_) (fun hc3 => ?_)
        · rw [if_neg hc3] at h
          have hq := Option.some.inj h
          subst hq
          refine zv_wk hB (L' := [.inr 0, .inl x1, .inr 1, .inl x3, .inl x4, .inl x5, .inr 1000]) (F' := []) ⟨fun _ => rfl, fun _ => rfl, fun _ => rfl, fun _ => rfl, fun _ => rfl, fun _ => rfl, fun (h : zv_is (.inr 1000)) => (Nat.lt_irrefl 1000 h).elim, trivial⟩ trivial ?_
          exact hK
        · rw [if_pos hc3] at h
          refine zv_ald hB zd134_26 rfl rfl rfl ?_
          refine zv_ild hB zd134_27 rfl rfl ?_
          obtain ⟨c4, h⟩ := zi_if h
          refine zv_iald hB zd134_29 rfl rfl (zi_ix_ok c4).1 (zi_ix_ok c4).2 (fun _ _ => ?_)
          refine zv_ald hB zd134_30 rfl rfl rfl ?_
          refine zv_ild hB zd134_31 rfl rfl ?_
          obtain ⟨c5, h⟩ := zi_if h
          refine zv_iald hB zd134_33 rfl rfl (zi_ix_ok c5).1 (zi_ix_ok c5).2 (fun _ _ => ?_)
          refine zv_cne hB zd134_34 rfl (fun hc6 => ?_) (fun hc6 => ?_)
          · rw [if_neg hc6] at h
            refine zv_con hB zd134_41 rfl ?_
            refine zv_ist hB zd134_42 rfl rfl rfl ?_
            refine zv_iincw hB zd134_44 rfl rfl ?_
            refine zv_goto hB zd134_47 rfl ?_
            exact ih _ _ _ _ _ q h hK
          · rw [if_pos hc6] at h
            refine zv_con hB zd134_37 rfl ?_
            refine zv_goto hB zd134_38 rfl ?_
            refine zv_ist hB zd134_42 rfl rfl rfl ?_
            refine zv_iincw hB zd134_44 rfl rfl ?_
            refine zv_goto hB zd134_47 rfl ?_
            exact ih _ _ _ _ _ q h hK
  have l0 : ∀ (n : Nat) (x1 : Int) (x3 : Int) (x4 : Int) (q : ((Unit) ⊕ (Int))), zf_Patches_hasAll_24_24_l0 x1 x3 g0 g1 n x4 = some q → (Sum.elim (fun e : Unit => good 63 [.inr 1000, .inr 1000, .inr 1000, .inr 1000, .inr 1000, .inr 1000, .inr 1000] [] [] [g0, g1]) (fun w : Int => w = o) q) → good 3 [.inr 0, .inl x1, .inr 1, .inl x3, .inl x4, .inr 1000, .inr 1000] [] [] [g0, g1] := by
    intro n
    induction n with
    | zero => intro x1 x3 x4 q h; exact absurd (show none = some q from h) (fun h => by cases h)
    | succ n ih =>
      intro x1 x3 x4 q h hK
      replace h : zf_Patches_hasAll_24_24_l0_b x1 x3 g0 g1 (zf_Patches_hasAll_24_24_l0 x1 x3 g0 g1 n) x4 = some q := h
      unfold zf_Patches_hasAll_24_24_l0_b at h
      refine zv_ild hB zd134_3 rfl rfl ?_
      refine zv_ild hB zd134_5 rfl rfl ?_
      refine zv_cge hB zd134_6 rfl (fun hc1 => ?_) (fun hc1 => ?_)
      · rw [if_neg (Int.not_lt.mpr hc1)] at h
        have hq := Option.some.inj h
        subst hq
        refine zv_wk hB (L' := [.inr 1000, .inr 1000, .inr 1000, .inr 1000, .inr 1000, .inr 1000, .inr 1000]) (F' := []) ⟨fun (h : zv_is (.inr 1000)) => (Nat.lt_irrefl 1000 h).elim, fun (h : zv_is (.inr 1000)) => (Nat.lt_irrefl 1000 h).elim, fun (h : zv_is (.inr 1000)) => (Nat.lt_irrefl 1000 h).elim, fun (h : zv_is (.inr 1000)) => (Nat.lt_irrefl 1000 h).elim, fun (h : zv_is (.inr 1000)) => (Nat.lt_irrefl 1000 h).elim, fun (h : zv_is (.inr 1000)) => (Nat.lt_irrefl 1000 h).elim, fun (h : zv_is (.inr 1000)) => (Nat.lt_irrefl 1000 h).elim, trivial⟩ trivial ?_
        exact hK
      · rw [if_pos hc1] at h
        refine zv_con hB zd134_9 rfl ?_
        refine zv_ist hB zd134_10 rfl rfl rfl ?_
        refine zv_con hB zd134_12 rfl ?_
        refine zv_ist hB zd134_13 rfl rfl rfl ?_
        obtain ⟨q7, hq7, h⟩ := zi_bind h
        refine l1 _ _ _ _ _ _ q7 hq7 ?_
        show good 50 [.inr 0, .inl x1, .inr 1, .inl x3, .inl x4, .inl q7, .inr 1000] [] [] [g0, g1]
        refine zv_ild hB zd134_50 rfl rfl ?_
        refine zv_zne hB zd134_52 rfl (fun hc8 => ?_) (fun hc8 => ?_)
        · rw [if_neg hc8] at h
          refine zv_iincw hB zd134_57 rfl rfl ?_
          refine zv_goto hB zd134_60 rfl ?_
          refine zv_wk hB (L' := [.inr 0, .inl x1, .inr 1, .inl x3, .inl (zi_w (x4 + 1)), .inr 1000, .inr 1000]) (F' := []) ⟨fun _ => rfl, fun _ => rfl, fun _ => rfl, fun _ => rfl, fun _ => rfl, fun (h : zv_is (.inr 1000)) => (Nat.lt_irrefl 1000 h).elim, fun (h : zv_is (.inr 1000)) => (Nat.lt_irrefl 1000 h).elim, trivial⟩ trivial ?_
          exact ih _ _ _ q h hK
        · rw [if_pos hc8] at h
          refine zv_con hB zd134_55 rfl ?_
          have hw : 0 = o := zi_rk (Option.some.inj h) hK
          subst hw
          exact hret _ _ _ _ _ zd134_56 (by constructor <;> decide) ⟨rfl, rfl, rfl⟩
  unfold zf_Patches_hasAll_24_24 at h
  refine zv_con hB zd134_0 rfl ?_
  refine zv_ist hB zd134_1 rfl rfl rfl ?_
  obtain ⟨q9, hq9, h⟩ := zi_bind h
  refine l0 _ _ _ _ q9 hq9 ?_
  rcases q9 with e10 | w11
  · replace h := zi_sl h
    show good 63 [.inr 1000, .inr 1000, .inr 1000, .inr 1000, .inr 1000, .inr 1000, .inr 1000] [] [] [g0, g1]
    refine zv_con hB zd134_63 rfl ?_
    have hw := Option.some.inj h
    subst hw
    exact hret _ _ _ _ _ zd134_64 (by constructor <;> decide) ⟨rfl, rfl, rfl⟩
  · exact Option.some.inj h
/-! Patches_isSame (II)Z -/
-- names: 0 Patches('arg', 0), 1 (0, 288)(0, 10, 0), 2 (0, 24)(0, 10, 4), 3 Sky(0, 10, 6), 4 (0, 24)(3, 1, 1), 5 (0, 24)(3, 1, 2), 6 (0, 24)(3, 1, 3), 7 (0, 24)(0, 10, 5)
-- fields: f0 = 3.hour_; arrays: g0 = 1, g1 = 2, g2 = 4, g3 = 5, g4 = 6, g5 = 7; out: [('ret', None), ('g', 1), ('g', 5)]
abbrev zy_Patches_isSame : zNL := (8, [(0, 10), (3, 1)], [(3, 1, 6, 0)], [(0, 10, 0, 1), (0, 10, 4, 2), (0, 10, 6, 3), (3, 1, 1, 4), (3, 1, 2, 5), (3, 1, 3, 6), (0, 10, 5, 7)], [(1, 0, 288, 0), (2, 0, 24, 1), (4, 0, 24, 2), (5, 0, 24, 3), (6, 0, 24, 4), (7, 0, 24, 5)])
theorem zyw_Patches_isSame : zv_wf zy_Patches_isSame = true := by decide +kernel
theorem zye_Patches_isSame : zv_ek2 zy_Patches_isSame = true := by decide +kernel
def zf_Patches_isSame (x1 : Int) (x2 : Int) (f0 : Int) (g0 : (Int → Int)) (g1 : (Int → Int)) (g2 : (Int → Int)) (g3 : (Int → Int)) (g4 : (Int → Int)) (g5 : (Int → Int)) : Option (Int × (Int → Int) × (Int → Int)) := cond (zi_ix x1 288) ((zf_Patches_fillParts_24 (g0 x1) x1 f0 g1 g2 g3 g4).bind fun r2 => (cond (zi_ix x2 288) ((zf_Patches_fillParts_24 (g0 x2) x2 f0 g5 g2 g3 g4).bind fun r4 => ((zf_Patches_hasAll_24_24 r2.1 r4.1 r2.2 r4.2).bind fun r5 => (if r5 = 0 then (some (0, r2.2, r4.2)) else ((zf_Patches_hasAll_24_24 r4.1 r2.1 r4.2 r2.2).bind fun r7 => (if r7 = 0 then (some (0, r2.2, r4.2)) else (some (1, r2.2, r4.2))))))) none)) none
theorem zd133_0 : decode zxm133.2.1 0 = .ok (.aload_n 0, 1) := by decide +kernel
theorem zd133_1 : decode zxm133.2.1 1 = .ok (.aload_n 0, 1) := by decide +kernel
theorem zd133_2 : decode zxm133.2.1 2 = .ok (.getfield 9, 3) := by decide +kernel
theorem zd133_5 : decode zxm133.2.1 5 = .ok (.iload_n 1, 1) := by decide +kernel
theorem zd133_6 : decode zxm133.2.1 6 = .ok (.iaload, 1) := by decide +kernel
theorem zd133_7 : decode zxm133.2.1 7 = .ok (.iload_n 1, 1) := by decide +kernel
theorem zd133_8 : decode zxm133.2.1 8 = .ok (.aload_n 0, 1) := by decide +kernel
theorem zd133_9 : decode zxm133.2.1 9 = .ok (.getfield 26, 3) := by decide +kernel
theorem zd133_12 : decode zxm133.2.1 12 = .ok (.invokevirtual 52, 3) := by decide +kernel
theorem zd133_15 : decode zxm133.2.1 15 = .ok (.istore_n 3, 1) := by decide +kernel
theorem zd133_16 : decode zxm133.2.1 16 = .ok (.aload_n 0, 1) := by decide +kernel
theorem zd133_17 : decode zxm133.2.1 17 = .ok (.aload_n 0, 1) := by decide +kernel
theorem zd133_18 : decode zxm133.2.1 18 = .ok (.getfield 9, 3) := by decide +kernel
theorem zd133_21 : decode zxm133.2.1 21 = .ok (.iload_n 2, 1) := by decide +kernel
theorem zd133_22 : decode zxm133.2.1 22 = .ok (.iaload, 1) := by decide +kernel
theorem zd133_23 : decode zxm133.2.1 23 = .ok (.iload_n 2, 1) := by decide +kernel
theorem zd133_24 : decode zxm133.2.1 24 = .ok (.aload_n 0, 1) := by decide +kernel
theorem zd133_25 : decode zxm133.2.1 25 = .ok (.getfield 29, 3) := by decide +kernel
theorem zd133_28 : decode zxm133.2.1 28 = .ok (.invokevirtual 52, 3) := by decide +kernel
theorem zd133_31 : decode zxm133.2.1 31 = .ok (.istore 4, 2) := by decide +kernel
theorem zd133_33 : decode zxm133.2.1 33 = .ok (.aload_n 0, 1) := by decide +kernel
theorem zd133_34 : decode zxm133.2.1 34 = .ok (.getfield 26, 3) := by decide +kernel
theorem zd133_37 : decode zxm133.2.1 37 = .ok (.iload_n 3, 1) := by decide +kernel
theorem zd133_38 : decode zxm133.2.1 38 = .ok (.aload_n 0, 1) := by decide +kernel
theorem zd133_39 : decode zxm133.2.1 39 = .ok (.getfield 29, 3) := by decide +kernel
theorem zd133_42 : decode zxm133.2.1 42 = .ok (.iload 4, 2) := by decide +kernel
theorem zd133_44 : decode zxm133.2.1 44 = .ok (.invokestatic 85, 3) := by decide +kernel
theorem zd133_47 : decode zxm133.2.1 47 = .ok (.ifCond .eq 24, 3) := by decide +kernel
theorem zd133_50 : decode zxm133.2.1 50 = .ok (.aload_n 0, 1) := by decide +kernel
theorem zd133_51 : decode zxm133.2.1 51 = .ok (.getfield 29, 3) := by decide +kernel
theorem zd133_54 : decode zxm133.2.1 54 = .ok (.iload 4, 2) := by decide +kernel
theorem zd133_56 : decode zxm133.2.1 56 = .ok (.aload_n 0, 1) := by decide +kernel
theorem zd133_57 : decode zxm133.2.1 57 = .ok (.getfield 26, 3) := by decide +kernel
theorem zd133_60 : decode zxm133.2.1 60 = .ok (.iload_n 3, 1) := by decide +kernel
theorem zd133_61 : decode zxm133.2.1 61 = .ok (.invokestatic 85, 3) := by decide +kernel
theorem zd133_64 : decode zxm133.2.1 64 = .ok (.ifCond .eq 7, 3) := by decide +kernel
theorem zd133_67 : decode zxm133.2.1 67 = .ok (.iconst 1, 1) := by decide +kernel
theorem zd133_68 : decode zxm133.2.1 68 = .ok (.goto 4, 3) := by decide +kernel
theorem zd133_71 : decode zxm133.2.1 71 = .ok (.iconst 0, 1) := by decide +kernel
theorem zd133_72 : decode zxm133.2.1 72 = .ok (.ireturn, 1) := by decide +kernel
theorem zt_Patches_isSame {x1 : Int} {x2 : Int} {f0 : Int} {g0 : (Int → Int)} {g1 : (Int → Int)} {g2 : (Int → Int)} {g3 : (Int → Int)} {g4 : (Int → Int)} {g5 : (Int → Int)} {o : Int × (Int → Int) × (Int → Int)} (h : zf_Patches_isSame x1 x2 f0 g0 g1 g2 g3 g4 g5 = some o) : zv_Fn z_TB z_cl z_KX zy_Patches_isSame zxm133 (2, 120) [.inr 0, .inl x1, .inl x2] [.inl f0] [g0, g1, g2, g3, g4, g5] (some o.1) [.inl f0] [g0, o.2.1, g2, g3, g4, o.2.2] := zv_meth (K := (z_KF5, z_KC5, z_KL5, z_KT5, [], [], [], none)) (FT := z_FT) (MT := z_MT) (n := 3) zxp133 (z_ks5 _ (fun _ h => List.mem_cons_of_mem _ h) _ _ _ _ (fun j r h _ => by cases h)) (fun _ _ => zs_KX_p) zyw_Patches_isSame (fun va F G h => by obtain ⟨rfl, _⟩ := h; rfl) (fun va F G h => by obtain ⟨rfl, _⟩ := h; rfl) rfl fun good va F G hB hret hvret hP => by
  obtain ⟨rfl, rfl, rfl⟩ := hP
  unfold zf_Patches_isSame at h
  refine zv_ald hB zd133_0 rfl rfl rfl ?_
  refine zv_ald hB zd133_1 rfl rfl rfl ?_
  refine zv_getr hB zd133_2 rfl ?_
  refine zv_ild hB zd133_5 rfl rfl ?_
  obtain ⟨c1, h⟩ := zi_if h
  refine zv_iald hB zd133_6 rfl rfl (zi_ix_ok c1).1 (zi_ix_ok c1).2 (fun _ _ => ?_)
  refine zv_ild hB zd133_7 rfl rfl ?_
  refine zv_ald hB zd133_8 rfl rfl rfl ?_
  refine zv_getr hB zd133_9 rfl ?_
  obtain ⟨r2, hr2, h⟩ := zi_bind h
  refine zv_cv hB (zv_emq (va2 := [.inr 0, .inl (g0 x1), .inl x1, .inr 2]) (F := [.inl f0]) (F' := [.inl f0]) (G := [g0, g1, g2, g3, g4, g5]) (G' := [g0, r2.2, g2, g3, g4, g5]) (ρ := [0, 2, 3, 4, 5, 6]) (φ := [0]) (ψ := [1, 2, 3, 4]) [some 0] [none, some 0, some 1, some 2, some 3, none] zyw_Patches_fillParts_24 zyw_Patches_isSame zye_Patches_isSame (by decide +kernel) (zt_Patches_fillParts_24 hr2) ⟨⟨_, rfl, fun _ => rfl⟩, trivial⟩ ⟨rfl, rfl, rfl, rfl, trivial⟩ rfl rfl rfl rfl rfl rfl rfl) zd133_12 zxt128 rfl (by decide) (by decide) rfl ?_
  refine zv_ist hB zd133_15 rfl rfl rfl ?_
  refine zv_ald hB zd133_16 rfl rfl rfl ?_
  refine zv_ald hB zd133_17 rfl rfl rfl ?_
  refine zv_getr hB zd133_18 rfl ?_
  refine zv_ild hB zd133_21 rfl rfl ?_
  obtain ⟨c3, h⟩ := zi_if h
  refine zv_iald hB zd133_22 rfl rfl (zi_ix_ok c3).1 (zi_ix_ok c3).2 (fun _ _ => ?_)
  refine zv_ild hB zd133_23 rfl rfl ?_
  refine zv_ald hB zd133_24 rfl rfl rfl ?_
  refine zv_getr hB zd133_25 rfl ?_
  obtain ⟨r4, hr4, h⟩ := zi_bind h
  refine zv_cv hB (zv_emq (va2 := [.inr 0, .inl (g0 x2), .inl x2, .inr 7]) (F := [.inl f0]) (F' := [.inl f0]) (G := [g0, r2.2, g2, g3, g4, g5]) (G' := [g0, r2.2, g2, g3, g4, r4.2]) (ρ := [0, 7, 3, 4, 5, 6]) (φ := [0]) (ψ := [5, 2, 3, 4]) [some 0] [none, none, some 1, some 2, some 3, some 0] zyw_Patches_fillParts_24 zyw_Patches_isSame zye_Patches_isSame (by decide +kernel) (zt_Patches_fillParts_24 hr4) ⟨⟨_, rfl, fun _ => rfl⟩, trivial⟩ ⟨rfl, rfl, rfl, rfl, trivial⟩ rfl rfl rfl rfl rfl rfl rfl) zd133_28 zxt128 rfl (by decide) (by decide) rfl ?_
  refine zv_ist hB zd133_31 rfl rfl rfl ?_
  refine zv_ald hB zd133_33 rfl rfl rfl ?_
  refine zv_getr hB zd133_34 rfl ?_
  refine zv_ild hB zd133_37 rfl rfl ?_
  refine zv_ald hB zd133_38 rfl rfl rfl ?_
  refine zv_getr hB zd133_39 rfl ?_
  refine zv_ild hB zd133_42 rfl rfl ?_
  obtain ⟨r5, hr5, h⟩ := zi_bind h
  refine zv_cs hB (zv_emq (va2 := [.inr 2, .inl r2.1, .inr 7, .inl r4.1]) (F := [.inl f0]) (F' := [.inl f0]) (G := [g0, r2.2, g2, g3, g4, r4.2]) (G' := [g0, r2.2, g2, g3, g4, r4.2]) (ρ := [2, 7]) (φ := []) (ψ := [1, 5]) [none] [none, some 0, none, none, none, some 1] zyw_Patches_hasAll_24_24 zyw_Patches_isSame zye_Patches_isSame (by decide +kernel) (zt_Patches_hasAll_24_24 hr5) trivial ⟨rfl, rfl, trivial⟩ rfl rfl rfl rfl rfl rfl rfl) zd133_44 zxt134 rfl (by decide) (by decide) rfl ?_
  refine zv_zeq hB zd133_47 rfl (fun hc6 => ?_) (fun hc6 => ?_)
  · rw [if_pos hc6] at h
    refine zv_con hB zd133_71 rfl ?_
    have hw := Option.some.inj h
    subst hw
    exact hret _ _ _ _ _ zd133_72 (by constructor <;> decide) ⟨rfl, rfl, rfl⟩
  · rw [if_neg hc6] at h
    refine zv_ald hB zd133_50 rfl rfl rfl ?_
    refine zv_getr hB zd133_51 rfl ?_
    refine zv_ild hB zd133_54 rfl rfl ?_
    refine zv_ald hB zd133_56 rfl rfl rfl ?_
    refine zv_getr hB zd133_57 rfl ?_
    refine zv_ild hB zd133_60 rfl rfl ?_
    obtain ⟨r7, hr7, h⟩ := zi_bind h
    refine zv_cs hB (zv_emq (va2 := [.inr 7, .inl r4.1, .inr 2, .inl r2.1]) (F := [.inl f0]) (F' := [.inl f0]) (G := [g0, r2.2, g2, g3, g4, r4.2]) (G' := [g0, r2.2, g2, g3, g4, r4.2]) (ρ := [7, 2]) (φ := []) (ψ := [5, 1]) [none] [none, some 1, none, none, none, some 0] zyw_Patches_hasAll_24_24 zyw_Patches_isSame zye_Patches_isSame (by decide +kernel) (zt_Patches_hasAll_24_24 hr7) trivial ⟨rfl, rfl, trivial⟩ rfl rfl rfl rfl rfl rfl rfl) zd133_61 zxt134 rfl (by decide) (by decide) rfl ?_
    refine zv_zeq hB zd133_64 rfl (fun hc8 => ?_) (fun hc8 => ?_)
    · rw [if_pos hc8] at h
      refine zv_con hB zd133_71 rfl ?_
      have hw := Option.some.inj h
      subst hw
      exact hret _ _ _ _ _ zd133_72 (by constructor <;> decide) ⟨rfl, rfl, rfl⟩
    · rw [if_neg hc8] at h
      refine zv_con hB zd133_67 rfl ?_
      refine zv_goto hB zd133_68 rfl ?_
      have hw := Option.some.inj h
      subst hw
      exact hret _ _ _ _ _ zd133_72 (by constructor <;> decide) ⟨rfl, rfl, rfl⟩
end
section
/-! Methods as functions, and that they do what these do. -/
/-! Patches_alikeTo (II)I -/
-- names: 0 Patches('arg', 0), 1 (0, 288)(0, 10, 0), 2 (2, 288)(0, 10, 1), 3 (0, 24)(0, 10, 4), 4 Sky(0, 10, 6), 5 (0, 24)(4, 1, 1), 6 (0, 24)(4, 1, 2), 7 (0, 24)(4, 1, 3), 8 (0, 24)(0, 10, 5)
-- fields: f0 = 4.hour_; arrays: g0 = 1, g1 = 2, g2 = 3, g3 = 5, g4 = 6, g5 = 7, g6 = 8; out: [('ret', None), ('g', 2), ('g', 6)]
abbrev zy_Patches_alikeTo : zNL := (9, [(0, 10), (4, 1)], [(4, 1, 6, 0)], [(0, 10, 0, 1), (0, 10, 1, 2), (0, 10, 4, 3), (0, 10, 6, 4), (4, 1, 1, 5), (4, 1, 2, 6), (4, 1, 3, 7), (0, 10, 5, 8)], [(1, 0, 288, 0), (2, 2, 288, 1), (3, 0, 24, 2), (5, 0, 24, 3), (6, 0, 24, 4), (7, 0, 24, 5), (8, 0, 24, 6)])
theorem zyw_Patches_alikeTo : zv_wf zy_Patches_alikeTo = true := by decide +kernel
theorem zye_Patches_alikeTo : zv_ek2 zy_Patches_alikeTo = true := by decide +kernel
def zf_Patches_alikeTo_l0_b (x1 : Int) (f0 : Int) (g0 : (Int → Int)) (g1 : (Int → Int)) (g3 : (Int → Int)) (g4 : (Int → Int)) (g5 : (Int → Int)) (rec : Int → (Int → Int) → (Int → Int) → Option ((((Int → Int) × (Int → Int)) ⊕ (Int × (Int → Int) × (Int → Int))))) (x3 : Int) (g2 : (Int → Int)) (g6 : (Int → Int)) : Option ((((Int → Int) × (Int → Int)) ⊕ (Int × (Int → Int) × (Int → Int)))) := if x3 < 288 then (if x3 = x1 then (rec (zi_w (x3 + 1)) g2 g6) else (cond (zi_ix x3 288) (cond (zi_ix x1 288) (if (zi_lcmp ((g1 x3).toNat) ((g1 x1).toNat)) = 0 then ((zf_Patches_isSame x1 x3 f0 g0 g2 g3 g4 g5 g6).bind fun r8 => (if r8.1 = 0 then (rec (zi_w (x3 + 1)) r8.2.1 r8.2.2) else (some (.inr (x3, r8.2.1, r8.2.2))))) else (rec (zi_w (x3 + 1)) g2 g6)) none) none)) else (some (.inl (g2, g6)))
def zf_Patches_alikeTo_l0 (x1 : Int) (f0 : Int) (g0 : (Int → Int)) (g1 : (Int → Int)) (g3 : (Int → Int)) (g4 : (Int → Int)) (g5 : (Int → Int)) : Nat → Int → (Int → Int) → (Int → Int) → Option ((((Int → Int) × (Int → Int)) ⊕ (Int × (Int → Int) × (Int → Int))))
  | 0, _, _, _ => none
  | n + 1, x3, g2, g6 => zf_Patches_alikeTo_l0_b x1 f0 g0 g1 g3 g4 g5 (zf_Patches_alikeTo_l0 x1 f0 g0 g1 g3 g4 g5 n) x3 g2 g6
def zf_Patches_alikeTo (x1 : Int) (x2 : Int) (f0 : Int) (g0 : (Int → Int)) (g1 : (Int → Int)) (g2 : (Int → Int)) (g3 : (Int → Int)) (g4 : (Int → Int)) (g5 : (Int → Int)) (g6 : (Int → Int)) : Option (Int × (Int → Int) × (Int → Int)) := cond (zi_ix x1 288) (if (g0 x1) = 0 then (some ((-1), g2, g6)) else ((zf_Patches_alikeTo_l0 x1 f0 g0 g1 g3 g4 g5 zi_fu x2 g2 g6).bind fun q10 => Sum.elim (fun e11 => (some ((-1), e11.1, e11.2))) (fun w12 => some w12) q10)) none
theorem zd132_0 : decode zxm132.2.1 0 = .ok (.aload_n 0, 1) := by decide +kernel
theorem zd132_1 : decode zxm132.2.1 1 = .ok (.getfield 9, 3) := by decide +kernel
theorem zd132_4 : decode zxm132.2.1 4 = .ok (.iload_n 1, 1) := by decide +kernel
theorem zd132_5 : decode zxm132.2.1 5 = .ok (.iaload, 1) := by decide +kernel
theorem zd132_6 : decode zxm132.2.1 6 = .ok (.ifCond .ne 5, 3) := by decide +kernel
theorem zd132_9 : decode zxm132.2.1 9 = .ok (.iconst (-1), 1) := by decide +kernel
theorem zd132_10 : decode zxm132.2.1 10 = .ok (.ireturn, 1) := by decide +kernel
theorem zd132_11 : decode zxm132.2.1 11 = .ok (.iload_n 2, 1) := by decide +kernel
theorem zd132_12 : decode zxm132.2.1 12 = .ok (.istore_n 3, 1) := by decide +kernel
theorem zd132_13 : decode zxm132.2.1 13 = .ok (.iload_n 3, 1) := by decide +kernel
theorem zd132_14 : decode zxm132.2.1 14 = .ok (.sipush 288, 3) := by decide +kernel
theorem zd132_17 : decode zxm132.2.1 17 = .ok (.if_icmp .ge 41, 3) := by decide +kernel
theorem zd132_20 : decode zxm132.2.1 20 = .ok (.iload_n 3, 1) := by decide +kernel
theorem zd132_21 : decode zxm132.2.1 21 = .ok (.iload_n 1, 1) := by decide +kernel
theorem zd132_22 : decode zxm132.2.1 22 = .ok (.if_icmp .eq 30, 3) := by decide +kernel
theorem zd132_25 : decode zxm132.2.1 25 = .ok (.aload_n 0, 1) := by decide +kernel
theorem zd132_26 : decode zxm132.2.1 26 = .ok (.getfield 15, 3) := by decide +kernel
theorem zd132_29 : decode zxm132.2.1 29 = .ok (.iload_n 3, 1) := by decide +kernel
theorem zd132_30 : decode zxm132.2.1 30 = .ok (.laload, 1) := by decide +kernel
theorem zd132_31 : decode zxm132.2.1 31 = .ok (.aload_n 0, 1) := by decide +kernel
theorem zd132_32 : decode zxm132.2.1 32 = .ok (.getfield 15, 3) := by decide +kernel
theorem zd132_35 : decode zxm132.2.1 35 = .ok (.iload_n 1, 1) := by decide +kernel
theorem zd132_36 : decode zxm132.2.1 36 = .ok (.laload, 1) := by decide +kernel
theorem zd132_37 : decode zxm132.2.1 37 = .ok (.lcmp, 1) := by decide +kernel
theorem zd132_38 : decode zxm132.2.1 38 = .ok (.ifCond .ne 14, 3) := by decide +kernel
theorem zd132_41 : decode zxm132.2.1 41 = .ok (.aload_n 0, 1) := by decide +kernel
theorem zd132_42 : decode zxm132.2.1 42 = .ok (.iload_n 1, 1) := by decide +kernel
theorem zd132_43 : decode zxm132.2.1 43 = .ok (.iload_n 3, 1) := by decide +kernel
theorem zd132_44 : decode zxm132.2.1 44 = .ok (.invokevirtual 81, 3) := by decide +kernel
theorem zd132_47 : decode zxm132.2.1 47 = .ok (.ifCond .eq 5, 3) := by decide +kernel
theorem zd132_50 : decode zxm132.2.1 50 = .ok (.iload_n 3, 1) := by decide +kernel
theorem zd132_51 : decode zxm132.2.1 51 = .ok (.ireturn, 1) := by decide +kernel
theorem zd132_52 : decode zxm132.2.1 52 = .ok (.iinc 3 1, 3) := by decide +kernel
theorem zd132_55 : decode zxm132.2.1 55 = .ok (.goto (-42), 3) := by decide +kernel
theorem zd132_58 : decode zxm132.2.1 58 = .ok (.iconst (-1), 1) := by decide +kernel
theorem zd132_59 : decode zxm132.2.1 59 = .ok (.ireturn, 1) := by decide +kernel
theorem zt_Patches_alikeTo {x1 : Int} {x2 : Int} {f0 : Int} {g0 : (Int → Int)} {g1 : (Int → Int)} {g2 : (Int → Int)} {g3 : (Int → Int)} {g4 : (Int → Int)} {g5 : (Int → Int)} {g6 : (Int → Int)} {o : Int × (Int → Int) × (Int → Int)} (h : zf_Patches_alikeTo x1 x2 f0 g0 g1 g2 g3 g4 g5 g6 = some o) : zv_Fn z_TB z_cl z_KX zy_Patches_alikeTo zxm132 (3, 180) [.inr 0, .inl x1, .inl x2] [.inl f0] [g0, g1, g2, g3, g4, g5, g6] (some o.1) [.inl f0] [g0, g1, o.2.1, g3, g4, g5, o.2.2] := zv_meth (K := (z_KF5, z_KC5, z_KL5, z_KT5, [], [], [], none)) (FT := z_FT) (MT := z_MT) (n := 3) zxp132 (z_ks5 _ (fun _ h => List.mem_cons_of_mem _ h) _ _ _ _ (fun j r h _ => by cases h)) (fun _ _ => zs_KX_p) zyw_Patches_alikeTo (fun va F G h => by obtain ⟨rfl, _⟩ := h; rfl) (fun va F G h => by obtain ⟨rfl, _⟩ := h; rfl) rfl fun good va F G hB hret hvret hP => by
  obtain ⟨rfl, rfl, rfl⟩ := hP
  have l0 : ∀ (n : Nat) (x1 : Int) (x3 : Int) (g2 : (Int → Int)) (g6 : (Int → Int)) (q : (((Int → Int) × (Int → Int)) ⊕ (Int × (Int → Int) × (Int → Int)))), zf_Patches_alikeTo_l0 x1 f0 g0 g1 g3 g4 g5 n x3 g2 g6 = some q → (Sum.elim (fun e : (Int → Int) × (Int → Int) => good 58 [.inr 1000, .inr 1000, .inr 1000, .inr 1000] [] [.inl f0] [g0, g1, e.1, g3, g4, g5, e.2]) (fun w : Int × (Int → Int) × (Int → Int) => w = o) q) → good 13 [.inr 0, .inl x1, .inr 1000, .inl x3] [] [.inl f0] [g0, g1, g2, g3, g4, g5, g6] := by
    intro n
    induction n with
    | zero => intro x1 x3 g2 g6 q h; exact absurd (show none = some q from h) (fun h => by cases h)
    | succ n ih =>
      intro x1 x3 g2 g6 q h hK
      replace h : zf_Patches_alikeTo_l0_b x1 f0 g0 g1 g3 g4 g5 (zf_Patches_alikeTo_l0 x1 f0 g0 g1 g3 g4 g5 n) x3 g2 g6 = some q := h
      unfold zf_Patches_alikeTo_l0_b at h
      refine zv_ild hB zd132_13 rfl rfl ?_
      refine zv_con hB zd132_14 rfl ?_
      refine zv_cge hB zd132_17 rfl (fun hc3 => ?_) (fun hc3 => ?_)
      · rw [if_neg (Int.not_lt.mpr hc3)] at h
        have hq := Option.some.inj h
        subst hq
        refine zv_wk hB (L' := [.inr 1000, .inr 1000, .inr 1000, .inr 1000]) (F' := [.inl f0]) ⟨fun (h : zv_is (.inr 1000)) => (Nat.lt_irrefl 1000 h).elim, fun (h : zv_is (.inr 1000)) => (Nat.lt_irrefl 1000 h).elim, fun (h : zv_is (.inr 1000)) => (Nat.lt_irrefl 1000 h).elim, fun (h : zv_is (.inr 1000)) => (Nat.lt_irrefl 1000 h).elim, trivial⟩ ⟨fun _ => rfl, trivial⟩ ?_
        exact hK
      · rw [if_pos hc3] at h
        refine zv_ild hB zd132_20 rfl rfl ?_
        refine zv_ild hB zd132_21 rfl rfl ?_
        refine zv_ceq hB zd132_22 rfl (fun hc4 => ?_) (fun hc4 => ?_)
        · rw [if_pos hc4] at h
          refine zv_iincw hB zd132_52 rfl rfl ?_
          refine zv_goto hB zd132_55 rfl ?_
          exact ih _ _ _ _ q h hK
        · rw [if_neg hc4] at h
          refine zv_ald hB zd132_25 rfl rfl rfl ?_
          refine zv_getr hB zd132_26 rfl ?_
          refine zv_ild hB zd132_29 rfl rfl ?_
          obtain ⟨c5, h⟩ := zi_if h
          refine zv_lald hB zd132_30 rfl rfl (zi_ix_ok c5).1 (zi_ix_ok c5).2 ?_
          refine zv_ald hB zd132_31 rfl rfl rfl ?_
          refine zv_getr hB zd132_32 rfl ?_
          refine zv_ild hB zd132_35 rfl rfl ?_
          obtain ⟨c6, h⟩ := zi_if h
          refine zv_lald hB zd132_36 rfl rfl (zi_ix_ok c6).1 (zi_ix_ok c6).2 ?_
          refine zv_lcmpw hB zd132_37 ?_
          refine zv_zne hB zd132_38 rfl (fun hc7 => ?_) (fun hc7 => ?_)
          · rw [if_neg hc7] at h
            refine zv_iincw hB zd132_52 rfl rfl ?_
            refine zv_goto hB zd132_55 rfl ?_
            exact ih _ _ _ _ q h hK
          · rw [if_pos hc7] at h
            refine zv_ald hB zd132_41 rfl rfl rfl ?_
            refine zv_ild hB zd132_42 rfl rfl ?_
            refine zv_ild hB zd132_43 rfl rfl ?_
            obtain ⟨r8, hr8, h⟩ := zi_bind h
            refine zv_cv hB (zv_emq (va2 := [.inr 0, .inl x1, .inl x3]) (F := [.inl f0]) (F' := [.inl f0]) (G := [g0, g1, g2, g3, g4, g5, g6]) (G' := [g0, g1, r8.2.1, g3, g4, g5, r8.2.2]) (ρ := [0, 1, 3, 4, 5, 6, 7, 8]) (φ := [0]) (ψ := [0, 2, 3, 4, 5, 6]) [some 0] [some 0, none, some 1, some 2, some 3, some 4, some 5] zyw_Patches_isSame zyw_Patches_alikeTo zye_Patches_alikeTo (by decide +kernel) (zt_Patches_isSame hr8) ⟨⟨_, rfl, fun _ => rfl⟩, trivial⟩ ⟨rfl, rfl, rfl, rfl, rfl, rfl, trivial⟩ rfl rfl rfl rfl rfl rfl rfl) zd132_44 zxt133 rfl (by decide) (by decide) rfl ?_
            refine zv_zeq hB zd132_47 rfl (fun hc9 => ?_) (fun hc9 => ?_)
            · rw [if_pos hc9] at h
              refine zv_iincw hB zd132_52 rfl rfl ?_
              refine zv_goto hB zd132_55 rfl ?_
              exact ih _ _ _ _ q h hK
            · rw [if_neg hc9] at h
              refine zv_ild hB zd132_50 rfl rfl ?_
              have hw : (x3, r8.2.1, r8.2.2) = o := zi_rk (Option.some.inj h) hK
              subst hw
              exact hret _ _ _ _ _ zd132_51 (by trivial) ⟨rfl, rfl, rfl⟩
  unfold zf_Patches_alikeTo at h
  refine zv_ald hB zd132_0 rfl rfl rfl ?_
  refine zv_getr hB zd132_1 rfl ?_
  refine zv_ild hB zd132_4 rfl rfl ?_
  obtain ⟨c1, h⟩ := zi_if h
  refine zv_iald hB zd132_5 rfl rfl (zi_ix_ok c1).1 (zi_ix_ok c1).2 (fun _ _ => ?_)
  refine zv_zne hB zd132_6 rfl (fun hc2 => ?_) (fun hc2 => ?_)
  · rw [if_neg hc2] at h
    refine zv_ild hB zd132_11 rfl rfl ?_
    refine zv_ist hB zd132_12 rfl rfl rfl ?_
    obtain ⟨q10, hq10, h⟩ := zi_bind h
    refine zv_wk hB (L' := [.inr 0, .inl x1, .inr 1000, .inl x2]) (F' := [.inl f0]) ⟨fun _ => rfl, fun _ => rfl, fun (h : zv_is (.inr 1000)) => (Nat.lt_irrefl 1000 h).elim, fun _ => rfl, trivial⟩ ⟨fun _ => rfl, trivial⟩ ?_
    refine l0 _ _ _ _ _ q10 hq10 ?_
    rcases q10 with e11 | w12
    · replace h := zi_sl h
      show good 58 [.inr 1000, .inr 1000, .inr 1000, .inr 1000] [] [.inl f0] [g0, g1, e11.1, g3, g4, g5, e11.2]
      refine zv_con hB zd132_58 rfl ?_
      have hw := Option.some.inj h
      subst hw
      exact hret _ _ _ _ _ zd132_59 (by trivial) ⟨rfl, rfl, rfl⟩
    · exact Option.some.inj h
  · rw [if_pos hc2] at h
    refine zv_con hB zd132_9 rfl ?_
    have hw := Option.some.inj h
    subst hw
    exact hret _ _ _ _ _ zd132_10 (by trivial) ⟨rfl, rfl, rfl⟩
/-! Patches_firstAlike ()I -/
-- names: 0 Patches('arg', 0), 1 (0, 288)(0, 10, 0), 2 (2, 288)(0, 10, 1), 3 (0, 24)(0, 10, 4), 4 Sky(0, 10, 6), 5 (0, 24)(4, 1, 1), 6 (0, 24)(4, 1, 2), 7 (0, 24)(4, 1, 3), 8 (0, 24)(0, 10, 5)
-- fields: f0 = 4.hour_; arrays: g0 = 1, g1 = 2, g2 = 3, g3 = 5, g4 = 6, g5 = 7, g6 = 8; out: [('ret', None), ('g', 2), ('g', 6)]
abbrev zy_Patches_firstAlike : zNL := (9, [(0, 10), (4, 1)], [(4, 1, 6, 0)], [(0, 10, 0, 1), (0, 10, 1, 2), (0, 10, 4, 3), (0, 10, 6, 4), (4, 1, 1, 5), (4, 1, 2, 6), (4, 1, 3, 7), (0, 10, 5, 8)], [(1, 0, 288, 0), (2, 2, 288, 1), (3, 0, 24, 2), (5, 0, 24, 3), (6, 0, 24, 4), (7, 0, 24, 5), (8, 0, 24, 6)])
theorem zyw_Patches_firstAlike : zv_wf zy_Patches_firstAlike = true := by decide +kernel
theorem zye_Patches_firstAlike : zv_ek2 zy_Patches_firstAlike = true := by decide +kernel
def zf_Patches_firstAlike_l0_b (f0 : Int) (g0 : (Int → Int)) (g1 : (Int → Int)) (g3 : (Int → Int)) (g4 : (Int → Int)) (g5 : (Int → Int)) (rec : Int → (Int → Int) → (Int → Int) → Option ((((Int → Int) × (Int → Int)) ⊕ (Int × (Int → Int) × (Int → Int))))) (x1 : Int) (g2 : (Int → Int)) (g6 : (Int → Int)) : Option ((((Int → Int) × (Int → Int)) ⊕ (Int × (Int → Int) × (Int → Int)))) := if x1 < 288 then ((zf_Patches_alikeTo x1 0 f0 g0 g1 g2 g3 g4 g5 g6).bind fun r2 => (if r2.1 = (-1) then (rec (zi_w (x1 + 1)) r2.2.1 r2.2.2) else (some (.inr (x1, r2.2.1, r2.2.2))))) else (some (.inl (g2, g6)))
def zf_Patches_firstAlike_l0 (f0 : Int) (g0 : (Int → Int)) (g1 : (Int → Int)) (g3 : (Int → Int)) (g4 : (Int → Int)) (g5 : (Int → Int)) : Nat → Int → (Int → Int) → (Int → Int) → Option ((((Int → Int) × (Int → Int)) ⊕ (Int × (Int → Int) × (Int → Int))))
  | 0, _, _, _ => none
  | n + 1, x1, g2, g6 => zf_Patches_firstAlike_l0_b f0 g0 g1 g3 g4 g5 (zf_Patches_firstAlike_l0 f0 g0 g1 g3 g4 g5 n) x1 g2 g6
def zf_Patches_firstAlike (f0 : Int) (g0 : (Int → Int)) (g1 : (Int → Int)) (g2 : (Int → Int)) (g3 : (Int → Int)) (g4 : (Int → Int)) (g5 : (Int → Int)) (g6 : (Int → Int)) : Option (Int × (Int → Int) × (Int → Int)) := (zf_Patches_firstAlike_l0 f0 g0 g1 g3 g4 g5 zi_fu 0 g2 g6).bind fun q4 => Sum.elim (fun e5 => (some ((-1), e5.1, e5.2))) (fun w6 => some w6) q4
theorem zd135_0 : decode zxm135.2.1 0 = .ok (.iconst 0, 1) := by decide +kernel
theorem zd135_1 : decode zxm135.2.1 1 = .ok (.istore_n 1, 1) := by decide +kernel
theorem zd135_2 : decode zxm135.2.1 2 = .ok (.iload_n 1, 1) := by decide +kernel
theorem zd135_3 : decode zxm135.2.1 3 = .ok (.sipush 288, 3) := by decide +kernel
theorem zd135_6 : decode zxm135.2.1 6 = .ok (.if_icmp .ge 21, 3) := by decide +kernel
theorem zd135_9 : decode zxm135.2.1 9 = .ok (.aload_n 0, 1) := by decide +kernel
theorem zd135_10 : decode zxm135.2.1 10 = .ok (.iload_n 1, 1) := by decide +kernel
theorem zd135_11 : decode zxm135.2.1 11 = .ok (.iconst 0, 1) := by decide +kernel
theorem zd135_12 : decode zxm135.2.1 12 = .ok (.invokevirtual 78, 3) := by decide +kernel
theorem zd135_15 : decode zxm135.2.1 15 = .ok (.iconst (-1), 1) := by decide +kernel
theorem zd135_16 : decode zxm135.2.1 16 = .ok (.if_icmp .eq 5, 3) := by decide +kernel
theorem zd135_19 : decode zxm135.2.1 19 = .ok (.iload_n 1, 1) := by decide +kernel
theorem zd135_20 : decode zxm135.2.1 20 = .ok (.ireturn, 1) := by decide +kernel
theorem zd135_21 : decode zxm135.2.1 21 = .ok (.iinc 1 1, 3) := by decide +kernel
theorem zd135_24 : decode zxm135.2.1 24 = .ok (.goto (-22), 3) := by decide +kernel
theorem zd135_27 : decode zxm135.2.1 27 = .ok (.iconst (-1), 1) := by decide +kernel
theorem zd135_28 : decode zxm135.2.1 28 = .ok (.ireturn, 1) := by decide +kernel
theorem zt_Patches_firstAlike {f0 : Int} {g0 : (Int → Int)} {g1 : (Int → Int)} {g2 : (Int → Int)} {g3 : (Int → Int)} {g4 : (Int → Int)} {g5 : (Int → Int)} {g6 : (Int → Int)} {o : Int × (Int → Int) × (Int → Int)} (h : zf_Patches_firstAlike f0 g0 g1 g2 g3 g4 g5 g6 = some o) : zv_Fn z_TB z_cl z_KX zy_Patches_firstAlike zxm135 (4, 240) [.inr 0] [.inl f0] [g0, g1, g2, g3, g4, g5, g6] (some o.1) [.inl f0] [g0, g1, o.2.1, g3, g4, g5, o.2.2] := zv_meth (K := (z_KF5, z_KC5, z_KL5, z_KT5, [], [], [], none)) (FT := z_FT) (MT := z_MT) (n := 1) zxp135 (z_ks5 _ (fun _ h => List.mem_cons_of_mem _ h) _ _ _ _ (fun j r h _ => by cases h)) (fun _ _ => zs_KX_p) zyw_Patches_firstAlike (fun va F G h => by obtain ⟨rfl, _⟩ := h; rfl) (fun va F G h => by obtain ⟨rfl, _⟩ := h; rfl) rfl fun good va F G hB hret hvret hP => by
  obtain ⟨rfl, rfl, rfl⟩ := hP
  have l0 : ∀ (n : Nat) (x1 : Int) (g2 : (Int → Int)) (g6 : (Int → Int)) (q : (((Int → Int) × (Int → Int)) ⊕ (Int × (Int → Int) × (Int → Int)))), zf_Patches_firstAlike_l0 f0 g0 g1 g3 g4 g5 n x1 g2 g6 = some q → (Sum.elim (fun e : (Int → Int) × (Int → Int) => good 27 [.inr 1000, .inr 1000] [] [.inl f0] [g0, g1, e.1, g3, g4, g5, e.2]) (fun w : Int × (Int → Int) × (Int → Int) => w = o) q) → good 2 [.inr 0, .inl x1] [] [.inl f0] [g0, g1, g2, g3, g4, g5, g6] := by
    intro n
    induction n with
    | zero => intro x1 g2 g6 q h; exact absurd (show none = some q from h) (fun h => by cases h)
    | succ n ih =>
      intro x1 g2 g6 q h hK
      replace h : zf_Patches_firstAlike_l0_b f0 g0 g1 g3 g4 g5 (zf_Patches_firstAlike_l0 f0 g0 g1 g3 g4 g5 n) x1 g2 g6 = some q := h
      unfold zf_Patches_firstAlike_l0_b at h
      refine zv_ild hB zd135_2 rfl rfl ?_
      refine zv_con hB zd135_3 rfl ?_
      refine zv_cge hB zd135_6 rfl (fun hc1 => ?_) (fun hc1 => ?_)
      · rw [if_neg (Int.not_lt.mpr hc1)] at h
        have hq := Option.some.inj h
        subst hq
        refine zv_wk hB (L' := [.inr 1000, .inr 1000]) (F' := [.inl f0]) ⟨fun (h : zv_is (.inr 1000)) => (Nat.lt_irrefl 1000 h).elim, fun (h : zv_is (.inr 1000)) => (Nat.lt_irrefl 1000 h).elim, trivial⟩ ⟨fun _ => rfl, trivial⟩ ?_
        exact hK
      · rw [if_pos hc1] at h
        refine zv_ald hB zd135_9 rfl rfl rfl ?_
        refine zv_ild hB zd135_10 rfl rfl ?_
        refine zv_con hB zd135_11 rfl ?_
        obtain ⟨r2, hr2, h⟩ := zi_bind h
        refine zv_cv hB (zv_emq (va2 := [.inr 0, .inl x1, .inl 0]) (F := [.inl f0]) (F' := [.inl f0]) (G := [g0, g1, g2, g3, g4, g5, g6]) (G' := [g0, g1, r2.2.1, g3, g4, g5, r2.2.2]) (ρ := [0, 1, 2, 3, 4, 5, 6, 7, 8]) (φ := [0]) (ψ := [0, 1, 2, 3, 4, 5, 6]) [some 0] [some 0, some 1, some 2, some 3, some 4, some 5, some 6] zyw_Patches_alikeTo zyw_Patches_firstAlike zye_Patches_firstAlike (by decide +kernel) (zt_Patches_alikeTo hr2) ⟨⟨_, rfl, fun _ => rfl⟩, trivial⟩ ⟨rfl, rfl, rfl, rfl, rfl, rfl, rfl, trivial⟩ rfl rfl rfl rfl rfl rfl rfl) zd135_12 zxt132 rfl (by decide) (by decide) rfl ?_
        refine zv_con hB zd135_15 rfl ?_
        refine zv_ceq hB zd135_16 rfl (fun hc3 => ?_) (fun hc3 => ?_)
        · rw [if_pos hc3] at h
          refine zv_iincw hB zd135_21 rfl rfl ?_
          refine zv_goto hB zd135_24 rfl ?_
          exact ih _ _ _ q h hK
        · rw [if_neg hc3] at h
          refine zv_ild hB zd135_19 rfl rfl ?_
          have hw : (x1, r2.2.1, r2.2.2) = o := zi_rk (Option.some.inj h) hK
          subst hw
          exact hret _ _ _ _ _ zd135_20 (by trivial) ⟨rfl, rfl, rfl⟩
  unfold zf_Patches_firstAlike at h
  refine zv_con hB zd135_0 rfl ?_
  refine zv_ist hB zd135_1 rfl rfl rfl ?_
  obtain ⟨q4, hq4, h⟩ := zi_bind h
  refine l0 _ _ _ _ q4 hq4 ?_
  rcases q4 with e5 | w6
  · replace h := zi_sl h
    show good 27 [.inr 1000, .inr 1000] [] [.inl f0] [g0, g1, e5.1, g3, g4, g5, e5.2]
    refine zv_con hB zd135_27 rfl ?_
    have hw := Option.some.inj h
    subst hw
    exact hret _ _ _ _ _ zd135_28 (by trivial) ⟨rfl, rfl, rfl⟩
  · exact Option.some.inj h
/-! Patches_countAlike ()I -/
-- names: 0 Patches('arg', 0), 1 (0, 288)(0, 10, 0), 2 (2, 288)(0, 10, 1), 3 (0, 24)(0, 10, 4), 4 Sky(0, 10, 6), 5 (0, 24)(4, 1, 1), 6 (0, 24)(4, 1, 2), 7 (0, 24)(4, 1, 3), 8 (0, 24)(0, 10, 5)
-- fields: f0 = 4.hour_; arrays: g0 = 1, g1 = 2, g2 = 3, g3 = 5, g4 = 6, g5 = 7, g6 = 8; out: [('ret', None), ('g', 2), ('g', 6)]
abbrev zy_Patches_countAlike : zNL := (9, [(0, 10), (4, 1)], [(4, 1, 6, 0)], [(0, 10, 0, 1), (0, 10, 1, 2), (0, 10, 4, 3), (0, 10, 6, 4), (4, 1, 1, 5), (4, 1, 2, 6), (4, 1, 3, 7), (0, 10, 5, 8)], [(1, 0, 288, 0), (2, 2, 288, 1), (3, 0, 24, 2), (5, 0, 24, 3), (6, 0, 24, 4), (7, 0, 24, 5), (8, 0, 24, 6)])
theorem zyw_Patches_countAlike : zv_wf zy_Patches_countAlike = true := by decide +kernel
theorem zye_Patches_countAlike : zv_ek2 zy_Patches_countAlike = true := by decide +kernel
def zf_Patches_countAlike_l0_b (f0 : Int) (g0 : (Int → Int)) (g1 : (Int → Int)) (g3 : (Int → Int)) (g4 : (Int → Int)) (g5 : (Int → Int)) (rec : Int → Int → (Int → Int) → (Int → Int) → Option (Int × (Int → Int) × (Int → Int))) (x1 : Int) (x2 : Int) (g2 : (Int → Int)) (g6 : (Int → Int)) : Option (Int × (Int → Int) × (Int → Int)) := if x2 < 288 then ((zf_Patches_alikeTo x2 0 f0 g0 g1 g2 g3 g4 g5 g6).bind fun r2 => (if r2.1 = (-1) then (rec x1 (zi_w (x2 + 1)) r2.2.1 r2.2.2) else (rec (zi_w (x1 + 1)) (zi_w (x2 + 1)) r2.2.1 r2.2.2))) else (some (x1, g2, g6))
def zf_Patches_countAlike_l0 (f0 : Int) (g0 : (Int → Int)) (g1 : (Int → Int)) (g3 : (Int → Int)) (g4 : (Int → Int)) (g5 : (Int → Int)) : Nat → Int → Int → (Int → Int) → (Int → Int) → Option (Int × (Int → Int) × (Int → Int))
  | 0, _, _, _, _ => none
  | n + 1, x1, x2, g2, g6 => zf_Patches_countAlike_l0_b f0 g0 g1 g3 g4 g5 (zf_Patches_countAlike_l0 f0 g0 g1 g3 g4 g5 n) x1 x2 g2 g6
def zf_Patches_countAlike (f0 : Int) (g0 : (Int → Int)) (g1 : (Int → Int)) (g2 : (Int → Int)) (g3 : (Int → Int)) (g4 : (Int → Int)) (g5 : (Int → Int)) (g6 : (Int → Int)) : Option (Int × (Int → Int) × (Int → Int)) := (zf_Patches_countAlike_l0 f0 g0 g1 g3 g4 g5 zi_fu 0 0 g2 g6).bind fun q4 => (some (q4.1, q4.2.1, q4.2.2))
theorem zd131_0 : decode zxm131.2.1 0 = .ok (.iconst 0, 1) := by decide +kernel
theorem zd131_1 : decode zxm131.2.1 1 = .ok (.istore_n 1, 1) := by decide +kernel
theorem zd131_2 : decode zxm131.2.1 2 = .ok (.iconst 0, 1) := by decide +kernel
theorem zd131_3 : decode zxm131.2.1 3 = .ok (.istore_n 2, 1) := by decide +kernel
theorem zd131_4 : decode zxm131.2.1 4 = .ok (.iload_n 2, 1) := by decide +kernel
theorem zd131_5 : decode zxm131.2.1 5 = .ok (.sipush 288, 3) := by decide +kernel
theorem zd131_8 : decode zxm131.2.1 8 = .ok (.if_icmp .ge 22, 3) := by decide +kernel
theorem zd131_11 : decode zxm131.2.1 11 = .ok (.aload_n 0, 1) := by decide +kernel
theorem zd131_12 : decode zxm131.2.1 12 = .ok (.iload_n 2, 1) := by decide +kernel
theorem zd131_13 : decode zxm131.2.1 13 = .ok (.iconst 0, 1) := by decide +kernel
theorem zd131_14 : decode zxm131.2.1 14 = .ok (.invokevirtual 78, 3) := by decide +kernel
theorem zd131_17 : decode zxm131.2.1 17 = .ok (.iconst (-1), 1) := by decide +kernel
theorem zd131_18 : decode zxm131.2.1 18 = .ok (.if_icmp .eq 6, 3) := by decide +kernel
theorem zd131_21 : decode zxm131.2.1 21 = .ok (.iinc 1 1, 3) := by decide +kernel
theorem zd131_24 : decode zxm131.2.1 24 = .ok (.iinc 2 1, 3) := by decide +kernel
theorem zd131_27 : decode zxm131.2.1 27 = .ok (.goto (-23), 3) := by decide +kernel
theorem zd131_30 : decode zxm131.2.1 30 = .ok (.iload_n 1, 1) := by decide +kernel
theorem zd131_31 : decode zxm131.2.1 31 = .ok (.ireturn, 1) := by decide +kernel
theorem zt_Patches_countAlike {f0 : Int} {g0 : (Int → Int)} {g1 : (Int → Int)} {g2 : (Int → Int)} {g3 : (Int → Int)} {g4 : (Int → Int)} {g5 : (Int → Int)} {g6 : (Int → Int)} {o : Int × (Int → Int) × (Int → Int)} (h : zf_Patches_countAlike f0 g0 g1 g2 g3 g4 g5 g6 = some o) : zv_Fn z_TB z_cl z_KX zy_Patches_countAlike zxm131 (4, 240) [.inr 0] [.inl f0] [g0, g1, g2, g3, g4, g5, g6] (some o.1) [.inl f0] [g0, g1, o.2.1, g3, g4, g5, o.2.2] := zv_meth (K := (z_KF5, z_KC5, z_KL5, z_KT5, [], [], [], none)) (FT := z_FT) (MT := z_MT) (n := 1) zxp131 (z_ks5 _ (fun _ h => List.mem_cons_of_mem _ h) _ _ _ _ (fun j r h _ => by cases h)) (fun _ _ => zs_KX_p) zyw_Patches_countAlike (fun va F G h => by obtain ⟨rfl, _⟩ := h; rfl) (fun va F G h => by obtain ⟨rfl, _⟩ := h; rfl) rfl fun good va F G hB hret hvret hP => by
  obtain ⟨rfl, rfl, rfl⟩ := hP
  have l0 : ∀ (n : Nat) (x1 : Int) (x2 : Int) (g2 : (Int → Int)) (g6 : (Int → Int)) (q : Int × (Int → Int) × (Int → Int)), zf_Patches_countAlike_l0 f0 g0 g1 g3 g4 g5 n x1 x2 g2 g6 = some q → (good 30 [.inr 1000, .inl q.1, .inr 1000] [] [.inl f0] [g0, g1, q.2.1, g3, g4, g5, q.2.2]) → good 4 [.inr 0, .inl x1, .inl x2] [] [.inl f0] [g0, g1, g2, g3, g4, g5, g6] := by
    intro n
    induction n with
    | zero => intro x1 x2 g2 g6 q h; exact absurd (show none = some q from h) (fun h => by cases h)
    | succ n ih =>
      intro x1 x2 g2 g6 q h hK
      replace h : zf_Patches_countAlike_l0_b f0 g0 g1 g3 g4 g5 (zf_Patches_countAlike_l0 f0 g0 g1 g3 g4 g5 n) x1 x2 g2 g6 = some q := h
      unfold zf_Patches_countAlike_l0_b at h
      refine zv_ild hB zd131_4 rfl rfl ?_
      refine zv_con hB zd131_5 rfl ?_
      refine zv_cge hB zd131_8 rfl (fun hc1 => ?_) (fun hc1 => ?_)
      · rw [if_neg (Int.not_lt.mpr hc1)] at h
        have hq := Option.some.inj h
        subst hq
        refine zv_wk hB (L' := [.inr 1000, .inl x1, .inr 1000]) (F' := [.inl f0]) ⟨fun (h : zv_is (.inr 1000)) => (Nat.lt_irrefl 1000 h).elim, fun _ => rfl, fun (h : zv_is (.inr 1000)) => (Nat.lt_irrefl 1000 h).elim, trivial⟩ ⟨fun _ => rfl, trivial⟩ ?_
        exact hK
      · rw [if_pos hc1] at h
        refine zv_ald hB zd131_11 rfl rfl rfl ?_
        refine zv_ild hB zd131_12 rfl rfl ?_
        refine zv_con hB zd131_13 rfl ?_
        obtain ⟨r2, hr2, h⟩ := zi_bind h
        refine zv_cv hB (zv_emq (va2 := [.inr 0, .inl x2, .inl 0]) (F := [.inl f0]) (F' := [.inl f0]) (G := [g0, g1, g2, g3, g4, g5, g6]) (G' := [g0, g1, r2.2.1, g3, g4, g5, r2.2.2]) (ρ := [0, 1, 2, 3, 4, 5, 6, 7, 8]) (φ := [0]) (ψ := [0, 1, 2, 3, 4, 5, 6]) [some 0] [some 0, some 1, some 2, some 3, some 4, some 5, some 6] zyw_Patches_alikeTo zyw_Patches_countAlike zye_Patches_countAlike (by decide +kernel) (zt_Patches_alikeTo hr2) ⟨⟨_, rfl, fun _ => rfl⟩, trivial⟩ ⟨rfl, rfl, rfl, rfl, rfl, rfl, rfl, trivial⟩ rfl rfl rfl rfl rfl rfl rfl) zd131_14 zxt132 rfl (by decide) (by decide) rfl ?_
        refine zv_con hB zd131_17 rfl ?_
        refine zv_ceq hB zd131_18 rfl (fun hc3 => ?_) (fun hc3 => ?_)
        · rw [if_pos hc3] at h
          refine zv_iincw hB zd131_24 rfl rfl ?_
          refine zv_goto hB zd131_27 rfl ?_
          exact ih _ _ _ _ q h hK
        · rw [if_neg hc3] at h
          refine zv_iincw hB zd131_21 rfl rfl ?_
          refine zv_iincw hB zd131_24 rfl rfl ?_
          refine zv_goto hB zd131_27 rfl ?_
          exact ih _ _ _ _ q h hK
  unfold zf_Patches_countAlike at h
  refine zv_con hB zd131_0 rfl ?_
  refine zv_ist hB zd131_1 rfl rfl rfl ?_
  refine zv_con hB zd131_2 rfl ?_
  refine zv_ist hB zd131_3 rfl rfl rfl ?_
  obtain ⟨q4, hq4, h⟩ := zi_bind h
  refine l0 _ _ _ _ _ q4 hq4 ?_
  show good 30 [.inr 1000, .inl q4.1, .inr 1000] [] [.inl f0] [g0, g1, q4.2.1, g3, g4, g5, q4.2.2]
  refine zv_ild hB zd131_30 rfl rfl ?_
  have hw := Option.some.inj h
  subst hw
  exact hret _ _ _ _ _ zd131_31 (by trivial) ⟨rfl, rfl, rfl⟩
/-! X_alike (I)I -/
-- names: 0 StarTales('arg', 0), 1 View(0, 0, 12), 2 Sky(0, 0, 0), 3 Law(0, 0, 7), 4 (0, 24)(1, 7, 8), 5 Patches(0, 0, 16), 6 (0, 13)(3, 4, 12), 7 (0, 24)(2, 1, 1), 8 (0, 24)(2, 1, 2), 9 (0, 24)(2, 1, 3), 10 (0, 14)(3, 4, 3), 11 (0, 14)(3, 4, 5), 12 (0, 14)(3, 4, 6), 13 (0, 200)(3, 4, 0), 14 (0, 40)(3, 4, 13), 15 (0, 200)(3, 4, 1), 16 (0, 288)(5, 10, 0), 17 (2, 288)(5, 10, 1), 18 (0, 24)(5, 10, 4), 19 (0, 24)(5, 10, 5)
-- fields: f0 = 0.ruling_, f1 = 1.sky_, f2 = 1.law_, f3 = 1.starsAsked_, f4 = 1.x_, f5 = 1.y_, f6 = 2.hour_, f7 = 2.night_, f8 = 1.shown_, f9 = 2.told_, f10 = 2.sightColumns_, f11 = 2.sightRows_, f12 = 2.clouds_, f13 = 3.tellsSeen_, f14 = 1.starsHold_, f15 = 3.clauses_, f16 = 3.answer_, f17 = 3.seenByPlace_; arrays: g0 = 4, g1 = 6, g2 = 7, g3 = 8, g4 = 9, g5 = 10, g6 = 11, g7 = 12, g8 = 13, g9 = 14, g10 = 15, g11 = 16, g12 = 17, g13 = 18, g14 = 19; out: [('ret', None), ('f', 3), ('f', 4), ('f', 5), ('f', 8), ('f', 14), ('f', 16), ('g', 0), ('g', 1), ('g', 9), ('g', 11), ('g', 12), ('g', 13), ('g', 14)]
abbrev zy_X_alike : zNL := (20, [(0, 0), (1, 7), (2, 1), (3, 4), (5, 10)], [(0, 0, 7, 0), (1, 7, 0, 1), (1, 7, 1, 2), (1, 7, 6, 3), (1, 7, 2, 4), (1, 7, 3, 5), (2, 1, 6, 6), (2, 1, 7, 7), (1, 7, 4, 8), (2, 1, 0, 9), (2, 1, 9, 10), (2, 1, 10, 11), (2, 1, 8, 12), (3, 4, 8, 13), (1, 7, 7, 14), (3, 4, 7, 15), (3, 4, 14, 16), (3, 4, 10, 17)], [(0, 0, 12, 1), (0, 0, 0, 2), (1, 7, 8, 4), (0, 0, 16, 5), (3, 4, 12, 6), (2, 1, 1, 7), (2, 1, 2, 8), (2, 1, 3, 9), (3, 4, 3, 10), (3, 4, 5, 11), (3, 4, 6, 12), (3, 4, 0, 13), (3, 4, 13, 14), (3, 4, 1, 15), (5, 10, 0, 16), (5, 10, 1, 17), (5, 10, 4, 18), (5, 10, 6, 2), (5, 10, 5, 19)], [(4, 0, 24, 0), (6, 0, 13, 1), (7, 0, 24, 2), (8, 0, 24, 3), (9, 0, 24, 4), (10, 0, 14, 5), (11, 0, 14, 6), (12, 0, 14, 7), (13, 0, 200, 8), (14, 0, 40, 9), (15, 0, 200, 10), (16, 0, 288, 11), (17, 2, 288, 12), (18, 0, 24, 13), (19, 0, 24, 14)])
theorem zyw_X_alike : zv_wf zy_X_alike = true := by decide +kernel
theorem zye_X_alike : zv_ek2 zy_X_alike = true := by decide +kernel
def zf_X_alike (x1 : Int) (f3 : Int) (f4 : Int) (f5 : Int) (f6 : Int) (f7 : Int) (f8 : Int) (f9 : Int) (f10 : Int) (f11 : Int) (f12 : Int) (f13 : Int) (f14 : Int) (f15 : Int) (f16 : Int) (f17 : Int) (g0 : (Int → Int)) (g1 : (Int → Int)) (g2 : (Int → Int)) (g3 : (Int → Int)) (g4 : (Int → Int)) (g5 : (Int → Int)) (g6 : (Int → Int)) (g7 : (Int → Int)) (g8 : (Int → Int)) (g9 : (Int → Int)) (g10 : (Int → Int)) (g11 : (Int → Int)) (g12 : (Int → Int)) (g13 : (Int → Int)) (g14 : (Int → Int)) : Option (Int × Int × Int × Int × Int × Int × Int × (Int → Int) × (Int → Int) × (Int → Int) × (Int → Int) × (Int → Int) × (Int → Int) × (Int → Int)) := (zf_X_isWithin x1 0 2).bind fun r1 => (if r1 = 0 then (some ((-1), f3, f4, f5, f8, f14, f16, g0, g1, g9, g11, g12, g13, g14)) else ((zf_View_open f3 g0).bind fun r3 => ((zf_Patches_lookEverywhere_al f4 f5 f6 f7 f8 f9 f10 f11 f12 f13 r3.1 f14 f15 f16 f17 g1 g2 g3 g4 g5 g6 g7 g8 g9 g10 g11 g12 g13).bind fun r4 => (if x1 = 0 then ((zf_Patches_countAlike f6 r4.2.2.2.2.2.2.2.2.1 r4.2.2.2.2.2.2.2.2.2.1 r4.2.2.2.2.2.2.2.2.2.2 g2 g3 g4 g14).bind fun r10 => (some (r10.1, r4.2.2.2.1, r4.1, r4.2.1, r4.2.2.1, r4.2.2.2.2.1, r4.2.2.2.2.2.1, r3.2, r4.2.2.2.2.2.2.1, r4.2.2.2.2.2.2.2.1, r4.2.2.2.2.2.2.2.2.1, r4.2.2.2.2.2.2.2.2.2.1, r10.2.1, r10.2.2))) else ((zf_Patches_firstAlike f6 r4.2.2.2.2.2.2.2.2.1 r4.2.2.2.2.2.2.2.2.2.1 r4.2.2.2.2.2.2.2.2.2.2 g2 g3 g4 g14).bind fun r6 => (if r6.1 = (-1) then (some ((-2), r4.2.2.2.1, r4.1, r4.2.1, r4.2.2.1, r4.2.2.2.2.1, r4.2.2.2.2.2.1, r3.2, r4.2.2.2.2.2.2.1, r4.2.2.2.2.2.2.2.1, r4.2.2.2.2.2.2.2.2.1, r4.2.2.2.2.2.2.2.2.2.1, r6.2.1, r6.2.2)) else (if x1 = 1 then (some (r6.1, r4.2.2.2.1, r4.1, r4.2.1, r4.2.2.1, r4.2.2.2.2.1, r4.2.2.2.2.2.1, r3.2, r4.2.2.2.2.2.2.1, r4.2.2.2.2.2.2.2.1, r4.2.2.2.2.2.2.2.2.1, r4.2.2.2.2.2.2.2.2.2.1, r6.2.1, r6.2.2)) else ((zf_Patches_alikeTo r6.1 (zi_w (r6.1 + 1)) f6 r4.2.2.2.2.2.2.2.2.1 r4.2.2.2.2.2.2.2.2.2.1 r6.2.1 g2 g3 g4 r6.2.2).bind fun r9 => (some (r9.1, r4.2.2.2.1, r4.1, r4.2.1, r4.2.2.1, r4.2.2.2.2.1, r4.2.2.2.2.2.1, r3.2, r4.2.2.2.2.2.2.1, r4.2.2.2.2.2.2.2.1, r4.2.2.2.2.2.2.2.2.1, r4.2.2.2.2.2.2.2.2.2.1, r9.2.1, r9.2.2))))))))))
theorem zd126_0 : decode zxm126.2.1 0 = .ok (.iload_n 1, 1) := by decide +kernel
theorem zd126_1 : decode zxm126.2.1 1 = .ok (.iconst 0, 1) := by decide +kernel
theorem zd126_2 : decode zxm126.2.1 2 = .ok (.iconst 2, 1) := by decide +kernel
theorem zd126_3 : decode zxm126.2.1 3 = .ok (.invokestatic 126, 3) := by decide +kernel
theorem zd126_6 : decode zxm126.2.1 6 = .ok (.ifCond .ne 5, 3) := by decide +kernel
theorem zd126_9 : decode zxm126.2.1 9 = .ok (.iconst (-1), 1) := by decide +kernel
theorem zd126_10 : decode zxm126.2.1 10 = .ok (.ireturn, 1) := by decide +kernel
theorem zd126_11 : decode zxm126.2.1 11 = .ok (.aload_n 0, 1) := by decide +kernel
theorem zd126_12 : decode zxm126.2.1 12 = .ok (.getfield 81, 3) := by decide +kernel
theorem zd126_15 : decode zxm126.2.1 15 = .ok (.aload_n 0, 1) := by decide +kernel
theorem zd126_16 : decode zxm126.2.1 16 = .ok (.getfield 10, 3) := by decide +kernel
theorem zd126_19 : decode zxm126.2.1 19 = .ok (.aload_n 0, 1) := by decide +kernel
theorem zd126_20 : decode zxm126.2.1 20 = .ok (.getfield 46, 3) := by decide +kernel
theorem zd126_23 : decode zxm126.2.1 23 = .ok (.invokevirtual 211, 3) := by decide +kernel
theorem zd126_26 : decode zxm126.2.1 26 = .ok (.aload_n 0, 1) := by decide +kernel
theorem zd126_27 : decode zxm126.2.1 27 = .ok (.getfield 112, 3) := by decide +kernel
theorem zd126_30 : decode zxm126.2.1 30 = .ok (.aload_n 0, 1) := by decide +kernel
theorem zd126_31 : decode zxm126.2.1 31 = .ok (.getfield 81, 3) := by decide +kernel
theorem zd126_34 : decode zxm126.2.1 34 = .ok (.invokevirtual 276, 3) := by decide +kernel
theorem zd126_37 : decode zxm126.2.1 37 = .ok (.iload_n 1, 1) := by decide +kernel
theorem zd126_38 : decode zxm126.2.1 38 = .ok (.ifCond .ne 11, 3) := by decide +kernel
theorem zd126_41 : decode zxm126.2.1 41 = .ok (.aload_n 0, 1) := by decide +kernel
theorem zd126_42 : decode zxm126.2.1 42 = .ok (.getfield 112, 3) := by decide +kernel
theorem zd126_45 : decode zxm126.2.1 45 = .ok (.invokevirtual 280, 3) := by decide +kernel
theorem zd126_48 : decode zxm126.2.1 48 = .ok (.ireturn, 1) := by decide +kernel
theorem zd126_49 : decode zxm126.2.1 49 = .ok (.aload_n 0, 1) := by decide +kernel
theorem zd126_50 : decode zxm126.2.1 50 = .ok (.getfield 112, 3) := by decide +kernel
theorem zd126_53 : decode zxm126.2.1 53 = .ok (.invokevirtual 283, 3) := by decide +kernel
theorem zd126_56 : decode zxm126.2.1 56 = .ok (.istore_n 2, 1) := by decide +kernel
theorem zd126_57 : decode zxm126.2.1 57 = .ok (.iload_n 2, 1) := by decide +kernel
theorem zd126_58 : decode zxm126.2.1 58 = .ok (.iconst (-1), 1) := by decide +kernel
theorem zd126_59 : decode zxm126.2.1 59 = .ok (.if_icmp .ne 6, 3) := by decide +kernel
theorem zd126_62 : decode zxm126.2.1 62 = .ok (.bipush (-2), 2) := by decide +kernel
theorem zd126_64 : decode zxm126.2.1 64 = .ok (.ireturn, 1) := by decide +kernel
theorem zd126_65 : decode zxm126.2.1 65 = .ok (.iload_n 1, 1) := by decide +kernel
theorem zd126_66 : decode zxm126.2.1 66 = .ok (.iconst 1, 1) := by decide +kernel
theorem zd126_67 : decode zxm126.2.1 67 = .ok (.if_icmp .ne 7, 3) := by decide +kernel
theorem zd126_70 : decode zxm126.2.1 70 = .ok (.iload_n 2, 1) := by decide +kernel
theorem zd126_71 : decode zxm126.2.1 71 = .ok (.goto 14, 3) := by decide +kernel
theorem zd126_74 : decode zxm126.2.1 74 = .ok (.aload_n 0, 1) := by decide +kernel
theorem zd126_75 : decode zxm126.2.1 75 = .ok (.getfield 112, 3) := by decide +kernel
theorem zd126_78 : decode zxm126.2.1 78 = .ok (.iload_n 2, 1) := by decide +kernel
theorem zd126_79 : decode zxm126.2.1 79 = .ok (.iload_n 2, 1) := by decide +kernel
theorem zd126_80 : decode zxm126.2.1 80 = .ok (.iconst 1, 1) := by decide +kernel
theorem zd126_81 : decode zxm126.2.1 81 = .ok (.iadd, 1) := by decide +kernel
theorem zd126_82 : decode zxm126.2.1 82 = .ok (.invokevirtual 286, 3) := by decide +kernel
theorem zd126_85 : decode zxm126.2.1 85 = .ok (.ireturn, 1) := by decide +kernel
theorem zt_X_alike {x1 : Int} {f3 : Int} {f4 : Int} {f5 : Int} {f6 : Int} {f7 : Int} {f8 : Int} {f9 : Int} {f10 : Int} {f11 : Int} {f12 : Int} {f13 : Int} {f14 : Int} {f15 : Int} {f16 : Int} {f17 : Int} {g0 : (Int → Int)} {g1 : (Int → Int)} {g2 : (Int → Int)} {g3 : (Int → Int)} {g4 : (Int → Int)} {g5 : (Int → Int)} {g6 : (Int → Int)} {g7 : (Int → Int)} {g8 : (Int → Int)} {g9 : (Int → Int)} {g10 : (Int → Int)} {g11 : (Int → Int)} {g12 : (Int → Int)} {g13 : (Int → Int)} {g14 : (Int → Int)} {o : Int × Int × Int × Int × Int × Int × Int × (Int → Int) × (Int → Int) × (Int → Int) × (Int → Int) × (Int → Int) × (Int → Int) × (Int → Int)} (h : zf_X_alike x1 f3 f4 f5 f6 f7 f8 f9 f10 f11 f12 f13 f14 f15 f16 f17 g0 g1 g2 g3 g4 g5 g6 g7 g8 g9 g10 g11 g12 g13 g14 = some o) : zv_Fn z_TB z_cl z_KX zy_X_alike zxm126 (6, 360) [.inr 0, .inl x1] [.inr 3, .inr 1000, .inr 1000, .inl f3, .inl f4, .inl f5, .inl f6, .inl f7, .inl f8, .inl f9, .inl f10, .inl f11, .inl f12, .inl f13, .inl f14, .inl f15, .inl f16, .inl f17] [g0, g1, g2, g3, g4, g5, g6, g7, g8, g9, g10, g11, g12, g13, g14] (some o.1) [.inr 3, .inr 1000, .inr 1000, .inl o.2.1, .inl o.2.2.1, .inl o.2.2.2.1, .inl f6, .inl f7, .inl o.2.2.2.2.1, .inl f9, .inl f10, .inl f11, .inl f12, .inl f13, .inl o.2.2.2.2.2.1, .inl f15, .inl o.2.2.2.2.2.2.1, .inl f17] [o.2.2.2.2.2.2.2.1, o.2.2.2.2.2.2.2.2.1, g2, g3, g4, g5, g6, g7, g8, o.2.2.2.2.2.2.2.2.2.1, g10, o.2.2.2.2.2.2.2.2.2.2.1, o.2.2.2.2.2.2.2.2.2.2.2.1, o.2.2.2.2.2.2.2.2.2.2.2.2.1, o.2.2.2.2.2.2.2.2.2.2.2.2.2] := zv_meth (K := (z_KF0, z_KC0, z_KL0, z_KT0, [], [], [], none)) (FT := z_FT) (MT := z_MT) (n := 2) zxp126 (z_ks0 _ (fun _ h => List.mem_cons_of_mem _ h) _ _ _ _ (fun j r h _ => by cases h)) (fun _ _ => zs_KX_p) zyw_X_alike (fun va F G h => by obtain ⟨rfl, _⟩ := h; rfl) (fun va F G h => by obtain ⟨rfl, _⟩ := h; rfl) rfl fun good va F G hB hret hvret hP => by
  obtain ⟨rfl, rfl, rfl⟩ := hP
  unfold zf_X_alike at h
  refine zv_ild hB zd126_0 rfl rfl ?_
  refine zv_con hB zd126_1 rfl ?_
  refine zv_con hB zd126_2 rfl ?_
  obtain ⟨r1, hr1, h⟩ := zi_bind h
  refine zv_cs hB (zv_emq (va2 := [.inl x1, .inl 0, .inl 2]) (F := [.inr 3, .inr 1000, .inr 1000, .inl f3, .inl f4, .inl f5, .inl f6, .inl f7, .inl f8, .inl f9, .inl f10, .inl f11, .inl f12, .inl f13, .inl f14, .inl f15, .inl f16, .inl f17]) (F' := [.inr 3, .inr 1000, .inr 1000, .inl f3, .inl f4, .inl f5, .inl f6, .inl f7, .inl f8, .inl f9, .inl f10, .inl f11, .inl f12, .inl f13, .inl f14, .inl f15, .inl f16, .inl f17]) (G := [g0, g1, g2, g3, g4, g5, g6, g7, g8, g9, g10, g11, g12, g13, g14]) (G' := [g0, g1, g2, g3, g4, g5, g6, g7, g8, g9, g10, g11, g12, g13, g14]) (ρ := []) (φ := []) (ψ := []) [none, none, none, none, none, none, none, none, none, none, none, none, none, none, none, none, none, none] [none, none, none, none, none, none, none, none, none, none, none, none, none, none, none] zyw_X_isWithin zyw_X_alike zye_X_alike (by decide +kernel) (zt_X_isWithin hr1) trivial trivial rfl rfl rfl rfl rfl rfl rfl) zd126_3 zxt15 rfl (by decide) (by decide) rfl ?_
  refine zv_zne hB zd126_6 rfl (fun hc2 => ?_) (fun hc2 => ?_)
  · rw [if_neg hc2] at h
    refine zv_ald hB zd126_11 rfl rfl rfl ?_
    refine zv_getr hB zd126_12 rfl ?_
    refine zv_ald hB zd126_15 rfl rfl rfl ?_
    refine zv_getr hB zd126_16 rfl ?_
    refine zv_ald hB zd126_19 rfl rfl rfl ?_
    refine zv_getq hB zd126_20 rfl rfl rfl ?_
    obtain ⟨r3, hr3, h⟩ := zi_bind h
    refine zv_cv hB (zv_emq (va2 := [.inr 1, .inr 2, .inr 3]) (F := [.inr 3, .inr 1000, .inr 1000, .inl f3, .inl f4, .inl f5, .inl f6, .inl f7, .inl f8, .inl f9, .inl f10, .inl f11, .inl f12, .inl f13, .inl f14, .inl f15, .inl f16, .inl f17]) (F' := [.inr 3, .inr 2, .inr 3, .inl r3.1, .inl f4, .inl f5, .inl f6, .inl f7, .inl f8, .inl f9, .inl f10, .inl f11, .inl f12, .inl f13, .inl f14, .inl f15, .inl f16, .inl f17]) (G := [g0, g1, g2, g3, g4, g5, g6, g7, g8, g9, g10, g11, g12, g13, g14]) (G' := [r3.2, g1, g2, g3, g4, g5, g6, g7, g8, g9, g10, g11, g12, g13, g14]) (ρ := [1, 2, 3, 4]) (φ := [1, 2, 3]) (ψ := [0]) [none, some 0, some 1, some 2, none, none, none, none, none, none, none, none, none, none, none, none, none, none] [some 0, none, none, none, none, none, none, none, none, none, none, none, none, none, none] zyw_View_open zyw_X_alike zye_X_alike (by decide +kernel) (zt_View_open hr3) ⟨⟨_, rfl, fun (h : zv_is (.inr 1000)) => (Nat.lt_irrefl 1000 h).elim⟩, ⟨_, rfl, fun (h : zv_is (.inr 1000)) => (Nat.lt_irrefl 1000 h).elim⟩, ⟨_, rfl, fun _ => rfl⟩, trivial⟩ ⟨rfl, trivial⟩ rfl rfl rfl rfl rfl rfl rfl) zd126_23 zxt84 rfl (by decide) (by decide) rfl ?_
    refine zv_ald hB zd126_26 rfl rfl rfl ?_
    refine zv_getr hB zd126_27 rfl ?_
    refine zv_ald hB zd126_30 rfl rfl rfl ?_
    refine zv_getr hB zd126_31 rfl ?_
    obtain ⟨r4, hr4, h⟩ := zi_bind h
    refine zv_cv hB (zv_emq (va2 := [.inr 5, .inr 1]) (F := [.inr 3, .inr 2, .inr 3, .inl r3.1, .inl f4, .inl f5, .inl f6, .inl f7, .inl f8, .inl f9, .inl f10, .inl f11, .inl f12, .inl f13, .inl f14, .inl f15, .inl f16, .inl f17]) (F' := [.inr 3, .inr 2, .inr 3, .inl r4.2.2.2.1, .inl r4.1, .inl r4.2.1, .inl f6, .inl f7, .inl r4.2.2.1, .inl f9, .inl f10, .inl f11, .inl f12, .inl f13, .inl r4.2.2.2.2.1, .inl f15, .inl r4.2.2.2.2.2.1, .inl f17]) (G := [r3.2, g1, g2, g3, g4, g5, g6, g7, g8, g9, g10, g11, g12, g13, g14]) (G' := [r3.2, r4.2.2.2.2.2.2.1, g2, g3, g4, g5, g6, g7, g8, r4.2.2.2.2.2.2.2.1, g10, r4.2.2.2.2.2.2.2.2.1, r4.2.2.2.2.2.2.2.2.2.1, r4.2.2.2.2.2.2.2.2.2.2, g14]) (ρ := [5, 1, 3, 6, 2, 7, 8, 9, 10, 11, 12, 13, 14, 15, 16, 17, 18]) (φ := [2, 1, 4, 5, 6, 7, 8, 9, 10, 11, 12, 13, 3, 14, 15, 16, 17]) (ψ := [1, 2, 3, 4, 5, 6, 7, 8, 9, 10, 11, 12, 13]) [none, some 1, some 0, some 12, some 2, some 3, some 4, some 5, some 6, some 7, some 8, some 9, some 10, some 11, some 13, some 14, some 15, some 16] [none, some 0, some 1, some 2, some 3, some 4, some 5, some 6, some 7, some 8, some 9, some 10, some 11, some 12, none] zyw_Patches_lookEverywhere_al zyw_X_alike zye_X_alike (by decide +kernel) (zt_Patches_lookEverywhere_al hr4) ⟨⟨_, rfl, fun _ => rfl⟩, ⟨_, rfl, fun _ => rfl⟩, ⟨_, rfl, fun _ => rfl⟩, ⟨_, rfl, fun _ => rfl⟩, ⟨_, rfl, fun _ => rfl⟩, ⟨_, rfl, fun _ => rfl⟩, ⟨_, rfl, fun _ => rfl⟩, ⟨_, rfl, fun _ => rfl⟩, ⟨_, rfl, fun _ => rfl⟩, ⟨_, rfl, fun _ => rfl⟩, ⟨_, rfl, fun _ => rfl⟩, ⟨_, rfl, fun _ => rfl⟩, ⟨_, rfl, fun _ => rfl⟩, ⟨_, rfl, fun _ => rfl⟩, ⟨_, rfl, fun _ => rfl⟩, ⟨_, rfl, fun _ => rfl⟩, ⟨_, rfl, fun _ => rfl⟩, trivial⟩ ⟨rfl, rfl, rfl, rfl, rfl, rfl, rfl, rfl, rfl, rfl, rfl, rfl, rfl, trivial⟩ rfl rfl rfl rfl rfl rfl rfl) zd126_34 zxt127 rfl (by decide) (by decide) rfl ?_
    refine zv_ild hB zd126_37 rfl rfl ?_
    refine zv_zne hB zd126_38 rfl (fun hc5 => ?_) (fun hc5 => ?_)
    · rw [if_neg hc5] at h
      refine zv_ald hB zd126_49 rfl rfl rfl ?_
      refine zv_getr hB zd126_50 rfl ?_
      obtain ⟨r6, hr6, h⟩ := zi_bind h
      refine zv_cv hB (zv_emq (va2 := [.inr 5]) (F := [.inr 3, .inr 2, .inr 3, .inl r4.2.2.2.1, .inl r4.1, .inl r4.2.1, .inl f6, .inl f7, .inl r4.2.2.1, .inl f9, .inl f10, .inl f11, .inl f12, .inl f13, .inl r4.2.2.2.2.1, .inl f15, .inl r4.2.2.2.2.2.1, .inl f17]) (F' := [.inr 3, .inr 2, .inr 3, .inl r4.2.2.2.1, .inl r4.1, .inl r4.2.1, .inl f6, .inl f7, .inl r4.2.2.1, .inl f9, .inl f10, .inl f11, .inl f12, .inl f13, .inl r4.2.2.2.2.1, .inl f15, .inl r4.2.2.2.2.2.1, .inl f17]) (G := [r3.2, r4.2.2.2.2.2.2.1, g2, g3, g4, g5, g6, g7, g8, r4.2.2.2.2.2.2.2.1, g10, r4.2.2.2.2.2.2.2.2.1, r4.2.2.2.2.2.2.2.2.2.1, r4.2.2.2.2.2.2.2.2.2.2, g14]) (G' := [r3.2, r4.2.2.2.2.2.2.1, g2, g3, g4, g5, g6, g7, g8, r4.2.2.2.2.2.2.2.1, g10, r4.2.2.2.2.2.2.2.2.1, r4.2.2.2.2.2.2.2.2.2.1, r6.2.1, r6.2.2]) (ρ := [5, 16, 17, 18, 2, 7, 8, 9, 19]) (φ := [6]) (ψ := [11, 12, 13, 2, 3, 4, 14]) [none, none, none, none, none, none, some 0, none, none, none, none, none, none, none, none, none, none, none] [none, none, some 3, some 4, some 5, none, none, none, none, none, none, some 0, some 1, some 2, some 6] zyw_Patches_firstAlike zyw_X_alike zye_X_alike (by decide +kernel) (zt_Patches_firstAlike hr6) ⟨⟨_, rfl, fun _ => rfl⟩, trivial⟩ ⟨rfl, rfl, rfl, rfl, rfl, rfl, rfl, trivial⟩ rfl rfl rfl rfl rfl rfl rfl) zd126_53 zxt135 rfl (by decide) (by decide) rfl ?_
      refine zv_ist hB zd126_56 rfl rfl rfl ?_
      refine zv_ild hB zd126_57 rfl rfl ?_
      refine zv_con hB zd126_58 rfl ?_
      refine zv_cne hB zd126_59 rfl (fun hc7 => ?_) (fun hc7 => ?_)
      · rw [if_neg hc7] at h
        refine zv_ild hB zd126_65 rfl rfl ?_
        refine zv_con hB zd126_66 rfl ?_
        refine zv_cne hB zd126_67 rfl (fun hc8 => ?_) (fun hc8 => ?_)
        · rw [if_neg hc8] at h
          refine zv_ald hB zd126_74 rfl rfl rfl ?_
          refine zv_getr hB zd126_75 rfl ?_
          refine zv_ild hB zd126_78 rfl rfl ?_
          refine zv_ild hB zd126_79 rfl rfl ?_
          refine zv_con hB zd126_80 rfl ?_
          refine zv_addw hB zd126_81 ?_
          obtain ⟨r9, hr9, h⟩ := zi_bind h
          refine zv_cv hB (zv_emq (va2 := [.inr 5, .inl r6.1, .inl (zi_w (r6.1 + 1))]) (F := [.inr 3, .inr 2, .inr 3, .inl r4.2.2.2.1, .inl r4.1, .inl r4.2.1, .inl f6, .inl f7, .inl r4.2.2.1, .inl f9, .inl f10, .inl f11, .inl f12, .inl f13, .inl r4.2.2.2.2.1, .inl f15, .inl r4.2.2.2.2.2.1, .inl f17]) (F' := [.inr 3, .inr 2, .inr 3, .inl r4.2.2.2.1, .inl r4.1, .inl r4.2.1, .inl f6, .inl f7, .inl r4.2.2.1, .inl f9, .inl f10, .inl f11, .inl f12, .inl f13, .inl r4.2.2.2.2.1, .inl f15, .inl r4.2.2.2.2.2.1, .inl f17]) (G := [r3.2, r4.2.2.2.2.2.2.1, g2, g3, g4, g5, g6, g7, g8, r4.2.2.2.2.2.2.2.1, g10, r4.2.2.2.2.2.2.2.2.1, r4.2.2.2.2.2.2.2.2.2.1, r6.2.1, r6.2.2]) (G' := [r3.2, r4.2.2.2.2.2.2.1, g2, g3, g4, g5, g6, g7, g8, r4.2.2.2.2.2.2.2.1, g10, r4.2.2.2.2.2.2.2.2.1, r4.2.2.2.2.2.2.2.2.2.1, r9.2.1, r9.2.2]) (ρ := [5, 16, 17, 18, 2, 7, 8, 9, 19]) (φ := [6]) (ψ := [11, 12, 13, 2, 3, 4, 14]) [none, none, none, none, none, none, some 0, none, none, none, none, none, none, none, none, none, none, none] [none, none, some 3, some 4, some 5, none, none, none, none, none, none, some 0, some 1, some 2, some 6] zyw_Patches_alikeTo zyw_X_alike zye_X_alike (by decide +kernel) (zt_Patches_alikeTo hr9) ⟨⟨_, rfl, fun _ => rfl⟩, trivial⟩ ⟨rfl, rfl, rfl, rfl, rfl, rfl, rfl, trivial⟩ rfl rfl rfl rfl rfl rfl rfl) zd126_82 zxt132 rfl (by decide) (by decide) rfl ?_
          have hw := Option.some.inj h
          refine zv_wk hB (L' := [.inr 0, .inl x1, .inl r6.1]) (F' := [.inr 3, .inr 1000, .inr 1000, .inl r4.2.2.2.1, .inl r4.1, .inl r4.2.1, .inl f6, .inl f7, .inl r4.2.2.1, .inl f9, .inl f10, .inl f11, .inl f12, .inl f13, .inl r4.2.2.2.2.1, .inl f15, .inl r4.2.2.2.2.2.1, .inl f17]) ⟨fun _ => rfl, fun _ => rfl, fun _ => rfl, trivial⟩ ⟨fun _ => rfl, fun (h : zv_is (.inr 1000)) => (Nat.lt_irrefl 1000 h).elim, fun (h : zv_is (.inr 1000)) => (Nat.lt_irrefl 1000 h).elim, fun _ => rfl, fun _ => rfl, fun _ => rfl, fun _ => rfl, fun _ => rfl, fun _ => rfl, fun _ => rfl, fun _ => rfl, fun _ => rfl, fun _ => rfl, fun _ => rfl, fun _ => rfl, fun _ => rfl, fun _ => rfl, fun _ => rfl, trivial⟩ ?_
          subst hw
          exact hret _ _ _ _ _ zd126_85 (by trivial) ⟨rfl, rfl, rfl⟩
        · rw [if_pos hc8] at h
          refine zv_ild hB zd126_70 rfl rfl ?_
          refine zv_goto hB zd126_71 rfl ?_
          have hw := Option.some.inj h
          refine zv_wk hB (L' := [.inr 0, .inl x1, .inl r6.1]) (F' := [.inr 3, .inr 1000, .inr 1000, .inl r4.2.2.2.1, .inl r4.1, .inl r4.2.1, .inl f6, .inl f7, .inl r4.2.2.1, .inl f9, .inl f10, .inl f11, .inl f12, .inl f13, .inl r4.2.2.2.2.1, .inl f15, .inl r4.2.2.2.2.2.1, .inl f17]) ⟨fun _ => rfl, fun _ => rfl, fun _ => rfl, trivial⟩ ⟨fun _ => rfl, fun (h : zv_is (.inr 1000)) => (Nat.lt_irrefl 1000 h).elim, fun (h : zv_is (.inr 1000)) => (Nat.lt_irrefl 1000 h).elim, fun _ => rfl, fun _ => rfl, fun _ => rfl, fun _ => rfl, fun _ => rfl, fun _ => rfl, fun _ => rfl, fun _ => rfl, fun _ => rfl, fun _ => rfl, fun _ => rfl, fun _ => rfl, fun _ => rfl, fun _ => rfl, fun _ => rfl, trivial⟩ ?_
          subst hw
          exact hret _ _ _ _ _ zd126_85 (by trivial) ⟨rfl, rfl, rfl⟩
      · rw [if_pos hc7] at h
        refine zv_con hB zd126_62 rfl ?_
        have hw := Option.some.inj h
        refine zv_wk hB (L' := [.inr 0, .inl x1, .inl r6.1]) (F' := [.inr 3, .inr 1000, .inr 1000, .inl r4.2.2.2.1, .inl r4.1, .inl r4.2.1, .inl f6, .inl f7, .inl r4.2.2.1, .inl f9, .inl f10, .inl f11, .inl f12, .inl f13, .inl r4.2.2.2.2.1, .inl f15, .inl r4.2.2.2.2.2.1, .inl f17]) ⟨fun _ => rfl, fun _ => rfl, fun _ => rfl, trivial⟩ ⟨fun _ => rfl, fun (h : zv_is (.inr 1000)) => (Nat.lt_irrefl 1000 h).elim, fun (h : zv_is (.inr 1000)) => (Nat.lt_irrefl 1000 h).elim, fun _ => rfl, fun _ => rfl, fun _ => rfl, fun _ => rfl, fun _ => rfl, fun _ => rfl, fun _ => rfl, fun _ => rfl, fun _ => rfl, fun _ => rfl, fun _ => rfl, fun _ => rfl, fun _ => rfl, fun _ => rfl, fun _ => rfl, trivial⟩ ?_
        subst hw
        exact hret _ _ _ _ _ zd126_64 (by trivial) ⟨rfl, rfl, rfl⟩
    · rw [if_pos hc5] at h
      refine zv_ald hB zd126_41 rfl rfl rfl ?_
      refine zv_getr hB zd126_42 rfl ?_
      obtain ⟨r10, hr10, h⟩ := zi_bind h
      refine zv_cv hB (zv_emq (va2 := [.inr 5]) (F := [.inr 3, .inr 2, .inr 3, .inl r4.2.2.2.1, .inl r4.1, .inl r4.2.1, .inl f6, .inl f7, .inl r4.2.2.1, .inl f9, .inl f10, .inl f11, .inl f12, .inl f13, .inl r4.2.2.2.2.1, .inl f15, .inl r4.2.2.2.2.2.1, .inl f17]) (F' := [.inr 3, .inr 2, .inr 3, .inl r4.2.2.2.1, .inl r4.1, .inl r4.2.1, .inl f6, .inl f7, .inl r4.2.2.1, .inl f9, .inl f10, .inl f11, .inl f12, .inl f13, .inl r4.2.2.2.2.1, .inl f15, .inl r4.2.2.2.2.2.1, .inl f17]) (G := [r3.2, r4.2.2.2.2.2.2.1, g2, g3, g4, g5, g6, g7, g8, r4.2.2.2.2.2.2.2.1, g10, r4.2.2.2.2.2.2.2.2.1, r4.2.2.2.2.2.2.2.2.2.1, r4.2.2.2.2.2.2.2.2.2.2, g14]) (G' := [r3.2, r4.2.2.2.2.2.2.1, g2, g3, g4, g5, g6, g7, g8, r4.2.2.2.2.2.2.2.1, g10, r4.2.2.2.2.2.2.2.2.1, r4.2.2.2.2.2.2.2.2.2.1, r10.2.1, r10.2.2]) (ρ := [5, 16, 17, 18, 2, 7, 8, 9, 19]) (φ := [6]) (ψ := [11, 12, 13, 2, 3, 4, 14]) [none, none, none, none, none, none, some 0, none, none, none, none, none, none, none, none, none, none, none] [none, none, some 3, some 4, some 5, none, none, none, none, none, none, some 0, some 1, some 2, some 6] zyw_Patches_countAlike zyw_X_alike zye_X_alike (by decide +kernel) (zt_Patches_countAlike hr10) ⟨⟨_, rfl, fun _ => rfl⟩, trivial⟩ ⟨rfl, rfl, rfl, rfl, rfl, rfl, rfl, trivial⟩ rfl rfl rfl rfl rfl rfl rfl) zd126_45 zxt131 rfl (by decide) (by decide) rfl ?_
      have hw := Option.some.inj h
      refine zv_wk hB (L' := [.inr 0, .inl x1, .inr 1000]) (F' := [.inr 3, .inr 1000, .inr 1000, .inl r4.2.2.2.1, .inl r4.1, .inl r4.2.1, .inl f6, .inl f7, .inl r4.2.2.1, .inl f9, .inl f10, .inl f11, .inl f12, .inl f13, .inl r4.2.2.2.2.1, .inl f15, .inl r4.2.2.2.2.2.1, .inl f17]) ⟨fun _ => rfl, fun _ => rfl, fun _ => rfl, trivial⟩ ⟨fun _ => rfl, fun (h : zv_is (.inr 1000)) => (Nat.lt_irrefl 1000 h).elim, fun (h : zv_is (.inr 1000)) => (Nat.lt_irrefl 1000 h).elim, fun _ => rfl, fun _ => rfl, fun _ => rfl, fun _ => rfl, fun _ => rfl, fun _ => rfl, fun _ => rfl, fun _ => rfl, fun _ => rfl, fun _ => rfl, fun _ => rfl, fun _ => rfl, fun _ => rfl, fun _ => rfl, fun _ => rfl, trivial⟩ ?_
      subst hw
      exact hret _ _ _ _ _ zd126_48 (by trivial) ⟨rfl, rfl, rfl⟩
  · rw [if_pos hc2] at h
    refine zv_con hB zd126_9 rfl ?_
    have hw := Option.some.inj h
    subst hw
    exact hret _ _ _ _ _ zd126_10 (by trivial) ⟨rfl, rfl, rfl⟩
/-! Tape_byteAt (I)I -/
-- names: 0 Tape('arg', 0), 1 (0, 220)(0, 3, 0)
-- fields: ; arrays: g0 = 1; out: [('ret', None)]
abbrev zy_Tape_byteAt : zNL := (2, [(0, 3)], [], [(0, 3, 0, 1)], [(1, 0, 220, 0)])
theorem zyw_Tape_byteAt : zv_wf zy_Tape_byteAt = true := by decide +kernel
theorem zye_Tape_byteAt : zv_ek2 zy_Tape_byteAt = true := by decide +kernel
def zf_Tape_byteAt (x1 : Int) (g0 : (Int → Int)) : Option (Int) := if x1 < 0 then (some 0) else (if x1 < 220 then (cond (zi_ix x1 220) (some (g0 x1)) none) else (some 0))
theorem zd138_0 : decode zxm138.2.1 0 = .ok (.iload_n 1, 1) := by decide +kernel
theorem zd138_1 : decode zxm138.2.1 1 = .ok (.ifCond .lt 19, 3) := by decide +kernel
theorem zd138_4 : decode zxm138.2.1 4 = .ok (.iload_n 1, 1) := by decide +kernel
theorem zd138_5 : decode zxm138.2.1 5 = .ok (.sipush 220, 3) := by decide +kernel
theorem zd138_8 : decode zxm138.2.1 8 = .ok (.if_icmp .ge 12, 3) := by decide +kernel
theorem zd138_11 : decode zxm138.2.1 11 = .ok (.aload_n 0, 1) := by decide +kernel
theorem zd138_12 : decode zxm138.2.1 12 = .ok (.getfield 9, 3) := by decide +kernel
theorem zd138_15 : decode zxm138.2.1 15 = .ok (.iload_n 1, 1) := by decide +kernel
theorem zd138_16 : decode zxm138.2.1 16 = .ok (.iaload, 1) := by decide +kernel
theorem zd138_17 : decode zxm138.2.1 17 = .ok (.goto 4, 3) := by decide +kernel
theorem zd138_20 : decode zxm138.2.1 20 = .ok (.iconst 0, 1) := by decide +kernel
theorem zd138_21 : decode zxm138.2.1 21 = .ok (.ireturn, 1) := by decide +kernel
theorem zt_Tape_byteAt {x1 : Int} {g0 : (Int → Int)} {o : Int} (h : zf_Tape_byteAt x1 g0 = some o) : zv_Fn z_TB z_cl z_KX zy_Tape_byteAt zxm138 (0, 0) [.inr 0, .inl x1] [] [g0] (some o) [] [g0] := zv_meth (K := (z_KF10, z_KC10, z_KL10, z_KT10, [], [], [], none)) (FT := z_FT) (MT := z_MT) (n := 2) zxp138 (z_ks10 _ (fun _ h => List.mem_cons_of_mem _ h) _ _ _ _ (fun j r h _ => by cases h)) (fun _ _ => zs_KX_p) zyw_Tape_byteAt (fun va F G h => by obtain ⟨rfl, _⟩ := h; rfl) (fun va F G h => by obtain ⟨rfl, _⟩ := h; rfl) rfl fun good va F G hB hret hvret hP => by
  obtain ⟨rfl, rfl, rfl⟩ := hP
  unfold zf_Tape_byteAt at h
  refine zv_ild hB zd138_0 rfl rfl ?_
  refine zv_zlt hB zd138_1 rfl (fun hc1 => ?_) (fun hc1 => ?_)
  · rw [if_pos hc1] at h
    refine zv_con hB zd138_20 rfl ?_
    have hw := Option.some.inj h
    subst hw
    exact hret _ _ _ _ _ zd138_21 (by trivial) ⟨rfl, rfl, rfl⟩
  · rw [if_neg (Int.not_lt.mpr hc1)] at h
    refine zv_ild hB zd138_4 rfl rfl ?_
    refine zv_con hB zd138_5 rfl ?_
    refine zv_cge hB zd138_8 rfl (fun hc2 => ?_) (fun hc2 => ?_)
    · rw [if_neg (Int.not_lt.mpr hc2)] at h
      refine zv_con hB zd138_20 rfl ?_
      have hw := Option.some.inj h
      subst hw
      exact hret _ _ _ _ _ zd138_21 (by trivial) ⟨rfl, rfl, rfl⟩
    · rw [if_pos hc2] at h
      refine zv_ald hB zd138_11 rfl rfl rfl ?_
      refine zv_getr hB zd138_12 rfl ?_
      refine zv_ild hB zd138_15 rfl rfl ?_
      obtain ⟨c3, h⟩ := zi_if h
      refine zv_iald hB zd138_16 rfl rfl (zi_ix_ok c3).1 (zi_ix_ok c3).2 (fun _ _ => ?_)
      refine zv_goto hB zd138_17 rfl ?_
      have hw := Option.some.inj h
      subst hw
      exact hret _ _ _ _ _ zd138_21 (by trivial) ⟨rfl, rfl, rfl⟩
/-! Patches_takeParts (LStarTales$Tape;I)V -/
-- names: 0 Patches('arg', 0), 1 Tape('arg', 1), 2 (0, 12)(0, 10, 2), 3 (0, 220)(1, 3, 0)
-- fields: f0 = 0.toldParts_; arrays: g0 = 2, g1 = 3; out: [('f', 0), ('g', 0)]
abbrev zy_Patches_takeParts : zNL := (4, [(0, 10), (1, 3)], [(0, 10, 3, 0)], [(0, 10, 2, 2), (1, 3, 0, 3)], [(2, 0, 12, 0), (3, 0, 220, 1)])
theorem zyw_Patches_takeParts : zv_wf zy_Patches_takeParts = true := by decide +kernel
theorem zye_Patches_takeParts : zv_ek2 zy_Patches_takeParts = true := by decide +kernel
def zf_Patches_takeParts_l0_b (f0 : Int) (g1 : (Int → Int)) (rec : Int → (Int → Int) → Option ((Int → Int))) (x3 : Int) (g0 : (Int → Int)) : Option ((Int → Int)) := if x3 < f0 then ((zf_Tape_byteAt (zi_w (3 * x3)) g1).bind fun r3 => ((zf_Tape_byteAt (zi_w ((zi_w (3 * x3)) + 1)) g1).bind fun r4 => ((zf_Tape_byteAt (zi_w ((zi_w (3 * x3)) + 2)) g1).bind fun r5 => ((zf_Patches_partOf r3 r4 r5).bind fun r6 => (cond (zi_ix x3 12) (rec (zi_w (x3 + 1)) (zv_up g0 x3 r6)) none))))) else (some g0)
def zf_Patches_takeParts_l0 (f0 : Int) (g1 : (Int → Int)) : Nat → Int → (Int → Int) → Option ((Int → Int))
  | 0, _, _ => none
  | n + 1, x3, g0 => zf_Patches_takeParts_l0_b f0 g1 (zf_Patches_takeParts_l0 f0 g1 n) x3 g0
def zf_Patches_takeParts (x2 : Int) (f0 : Int) (g0 : (Int → Int)) (g1 : (Int → Int)) : Option (Int × (Int → Int)) := (zf_Math_min x2 12).bind fun r1 => ((zf_Patches_takeParts_l0 r1 g1 zi_fu 0 g0).bind fun q8 => (some (r1, q8)))
theorem zd137_0 : decode zxm137.2.1 0 = .ok (.aload_n 0, 1) := by decide +kernel
theorem zd137_1 : decode zxm137.2.1 1 = .ok (.iload_n 2, 1) := by decide +kernel
theorem zd137_2 : decode zxm137.2.1 2 = .ok (.bipush 12, 2) := by decide +kernel
theorem zd137_4 : decode zxm137.2.1 4 = .ok (.invokestatic 89, 3) := by decide +kernel
theorem zd137_7 : decode zxm137.2.1 7 = .ok (.putfield 22, 3) := by decide +kernel
theorem zd137_10 : decode zxm137.2.1 10 = .ok (.iconst 0, 1) := by decide +kernel
theorem zd137_11 : decode zxm137.2.1 11 = .ok (.istore_n 3, 1) := by decide +kernel
theorem zd137_12 : decode zxm137.2.1 12 = .ok (.iload_n 3, 1) := by decide +kernel
theorem zd137_13 : decode zxm137.2.1 13 = .ok (.aload_n 0, 1) := by decide +kernel
theorem zd137_14 : decode zxm137.2.1 14 = .ok (.getfield 22, 3) := by decide +kernel
theorem zd137_17 : decode zxm137.2.1 17 = .ok (.if_icmp .ge 43, 3) := by decide +kernel
theorem zd137_20 : decode zxm137.2.1 20 = .ok (.aload_n 0, 1) := by decide +kernel
theorem zd137_21 : decode zxm137.2.1 21 = .ok (.getfield 19, 3) := by decide +kernel
theorem zd137_24 : decode zxm137.2.1 24 = .ok (.iload_n 3, 1) := by decide +kernel
theorem zd137_25 : decode zxm137.2.1 25 = .ok (.aload_n 1, 1) := by decide +kernel
theorem zd137_26 : decode zxm137.2.1 26 = .ok (.iconst 3, 1) := by decide +kernel
theorem zd137_27 : decode zxm137.2.1 27 = .ok (.iload_n 3, 1) := by decide +kernel
theorem zd137_28 : decode zxm137.2.1 28 = .ok (.imul, 1) := by decide +kernel
theorem zd137_29 : decode zxm137.2.1 29 = .ok (.invokevirtual 92, 3) := by decide +kernel
theorem zd137_32 : decode zxm137.2.1 32 = .ok (.aload_n 1, 1) := by decide +kernel
theorem zd137_33 : decode zxm137.2.1 33 = .ok (.iconst 3, 1) := by decide +kernel
theorem zd137_34 : decode zxm137.2.1 34 = .ok (.iload_n 3, 1) := by decide +kernel
theorem zd137_35 : decode zxm137.2.1 35 = .ok (.imul, 1) := by decide +kernel
theorem zd137_36 : decode zxm137.2.1 36 = .ok (.iconst 1, 1) := by decide +kernel
theorem zd137_37 : decode zxm137.2.1 37 = .ok (.iadd, 1) := by decide +kernel
theorem zd137_38 : decode zxm137.2.1 38 = .ok (.invokevirtual 92, 3) := by decide +kernel
theorem zd137_41 : decode zxm137.2.1 41 = .ok (.aload_n 1, 1) := by decide +kernel
theorem zd137_42 : decode zxm137.2.1 42 = .ok (.iconst 3, 1) := by decide +kernel
theorem zd137_43 : decode zxm137.2.1 43 = .ok (.iload_n 3, 1) := by decide +kernel
theorem zd137_44 : decode zxm137.2.1 44 = .ok (.imul, 1) := by decide +kernel
theorem zd137_45 : decode zxm137.2.1 45 = .ok (.iconst 2, 1) := by decide +kernel
theorem zd137_46 : decode zxm137.2.1 46 = .ok (.iadd, 1) := by decide +kernel
theorem zd137_47 : decode zxm137.2.1 47 = .ok (.invokevirtual 92, 3) := by decide +kernel
theorem zd137_50 : decode zxm137.2.1 50 = .ok (.invokestatic 74, 3) := by decide +kernel
theorem zd137_53 : decode zxm137.2.1 53 = .ok (.iastore, 1) := by decide +kernel
theorem zd137_54 : decode zxm137.2.1 54 = .ok (.iinc 3 1, 3) := by decide +kernel
theorem zd137_57 : decode zxm137.2.1 57 = .ok (.goto (-45), 3) := by decide +kernel
theorem zd137_60 : decode zxm137.2.1 60 = .ok (.return_, 1) := by decide +kernel
theorem zt_Patches_takeParts {x2 : Int} {f0 : Int} {g0 : (Int → Int)} {g1 : (Int → Int)} {o : Int × (Int → Int)} (h : zf_Patches_takeParts x2 f0 g0 g1 = some o) : zv_Fn z_TB z_cl z_KX zy_Patches_takeParts zxm137 (1, 60) [.inr 0, .inr 1, .inl x2] [.inl f0] [g0, g1] none [.inl o.1] [o.2, g1] := zv_meth (K := (z_KF5, z_KC5, z_KL5, z_KT5, [], [], [], none)) (FT := z_FT) (MT := z_MT) (n := 3) zxp137 (z_ks5 _ (fun _ h => List.mem_cons_of_mem _ h) _ _ _ _ (fun j r h _ => by cases h)) (fun _ _ => zs_KX_p) zyw_Patches_takeParts (fun va F G h => by obtain ⟨rfl, _⟩ := h; rfl) (fun va F G h => by obtain ⟨rfl, _⟩ := h; rfl) rfl fun good va F G hB hret hvret hP => by
  obtain ⟨rfl, rfl, rfl⟩ := hP
  have l0 : ∀ (n : Nat) (x3 : Int) (f0 : Int) (g0 : (Int → Int)) (q : (Int → Int)), zf_Patches_takeParts_l0 f0 g1 n x3 g0 = some q → (good 60 [.inr 1000, .inr 1000, .inr 1000, .inr 1000] [] [.inl f0] [q, g1]) → good 12 [.inr 0, .inr 1, .inr 1000, .inl x3] [] [.inl f0] [g0, g1] := by
    intro n
    induction n with
    | zero => intro x3 f0 g0 q h; exact absurd (show none = some q from h) (fun h => by cases h)
    | succ n ih =>
      intro x3 f0 g0 q h hK
      replace h : zf_Patches_takeParts_l0_b f0 g1 (zf_Patches_takeParts_l0 f0 g1 n) x3 g0 = some q := h
      unfold zf_Patches_takeParts_l0_b at h
      refine zv_ild hB zd137_12 rfl rfl ?_
      refine zv_ald hB zd137_13 rfl rfl rfl ?_
      refine zv_getf hB zd137_14 rfl rfl (fun _ _ => ?_)
      refine zv_cge hB zd137_17 rfl (fun hc2 => ?_) (fun hc2 => ?_)
      · rw [if_neg (Int.not_lt.mpr hc2)] at h
        have hq := Option.some.inj h
        subst hq
        refine zv_wk hB (L' := [.inr 1000, .inr 1000, .inr 1000, .inr 1000]) (F' := [.inl f0]) ⟨fun (h : zv_is (.inr 1000)) => (Nat.lt_irrefl 1000 h).elim, fun (h : zv_is (.inr 1000)) => (Nat.lt_irrefl 1000 h).elim, fun (h : zv_is (.inr 1000)) => (Nat.lt_irrefl 1000 h).elim, fun (h : zv_is (.inr 1000)) => (Nat.lt_irrefl 1000 h).elim, trivial⟩ ⟨fun _ => rfl, trivial⟩ ?_
        exact hK
      · rw [if_pos hc2] at h
        refine zv_ald hB zd137_20 rfl rfl rfl ?_
        refine zv_getr hB zd137_21 rfl ?_
        refine zv_ild hB zd137_24 rfl rfl ?_
        refine zv_ald hB zd137_25 rfl rfl rfl ?_
        refine zv_con hB zd137_26 rfl ?_
        refine zv_ild hB zd137_27 rfl rfl ?_
        refine zv_mulw hB zd137_28 ?_
        obtain ⟨r3, hr3, h⟩ := zi_bind h
        refine zv_cv hB (zv_emq (va2 := [.inr 1, .inl (zi_w (3 * x3))]) (F := [.inl f0]) (F' := [.inl f0]) (G := [g0, g1]) (G' := [g0, g1]) (ρ := [1, 3]) (φ := []) (ψ := [1]) [none] [none, some 0] zyw_Tape_byteAt zyw_Patches_takeParts zye_Patches_takeParts (by decide +kernel) (zt_Tape_byteAt hr3) trivial ⟨rfl, trivial⟩ rfl rfl rfl rfl rfl rfl rfl) zd137_29 zxt138 rfl (by decide) (by decide) rfl ?_
        refine zv_ald hB zd137_32 rfl rfl rfl ?_
        refine zv_con hB zd137_33 rfl ?_
        refine zv_ild hB zd137_34 rfl rfl ?_
        refine zv_mulw hB zd137_35 ?_
        refine zv_con hB zd137_36 rfl ?_
        refine zv_addw hB zd137_37 ?_
        obtain ⟨r4, hr4, h⟩ := zi_bind h
        refine zv_cv hB (zv_emq (va2 := [.inr 1, .inl (zi_w ((zi_w (3 * x3)) + 1))]) (F := [.inl f0]) (F' := [.inl f0]) (G := [g0, g1]) (G' := [g0, g1]) (ρ := [1, 3]) (φ := []) (ψ := [1]) [none] [none, some 0] zyw_Tape_byteAt zyw_Patches_takeParts zye_Patches_takeParts (by decide +kernel) (zt_Tape_byteAt hr4) trivial ⟨rfl, trivial⟩ rfl rfl rfl rfl rfl rfl rfl) zd137_38 zxt138 rfl (by decide) (by decide) rfl ?_
        refine zv_ald hB zd137_41 rfl rfl rfl ?_
        refine zv_con hB zd137_42 rfl ?_
        refine zv_ild hB zd137_43 rfl rfl ?_
        refine zv_mulw hB zd137_44 ?_
        refine zv_con hB zd137_45 rfl ?_
        refine zv_addw hB zd137_46 ?_
        obtain ⟨r5, hr5, h⟩ := zi_bind h
        refine zv_cv hB (zv_emq (va2 := [.inr 1, .inl (zi_w ((zi_w (3 * x3)) + 2))]) (F := [.inl f0]) (F' := [.inl f0]) (G := [g0, g1]) (G' := [g0, g1]) (ρ := [1, 3]) (φ := []) (ψ := [1]) [none] [none, some 0] zyw_Tape_byteAt zyw_Patches_takeParts zye_Patches_takeParts (by decide +kernel) (zt_Tape_byteAt hr5) trivial ⟨rfl, trivial⟩ rfl rfl rfl rfl rfl rfl rfl) zd137_47 zxt138 rfl (by decide) (by decide) rfl ?_
        obtain ⟨r6, hr6, h⟩ := zi_bind h
        refine zv_cs hB (zv_emq (va2 := [.inl r3, .inl r4, .inl r5]) (F := [.inl f0]) (F' := [.inl f0]) (G := [g0, g1]) (G' := [g0, g1]) (ρ := []) (φ := []) (ψ := []) [none] [none, none] zyw_Patches_partOf zyw_Patches_takeParts zye_Patches_takeParts (by decide +kernel) (zt_Patches_partOf hr6) trivial trivial rfl rfl rfl rfl rfl rfl rfl) zd137_50 zxt130 rfl (by decide) (by decide) rfl ?_
        obtain ⟨c7, h⟩ := zi_if h
        refine zv_iast hB zd137_53 rfl rfl (zi_ix_ok c7).1 (zi_ix_ok c7).2 ?_
        refine zv_iincw hB zd137_54 rfl rfl ?_
        refine zv_goto hB zd137_57 rfl ?_
        exact ih _ _ _ q h hK
  unfold zf_Patches_takeParts at h
  refine zv_ald hB zd137_0 rfl rfl rfl ?_
  refine zv_ild hB zd137_1 rfl rfl ?_
  refine zv_con hB zd137_2 rfl ?_
  obtain ⟨r1, hr1, h⟩ := zi_bind h
  refine zv_cs hB (zv_emq (va2 := [.inl x2, .inl 12]) (F := [.inl f0]) (F' := [.inl f0]) (G := [g0, g1]) (G' := [g0, g1]) (ρ := []) (φ := []) (ψ := []) [none] [none, none] zyw_Math_min zyw_Patches_takeParts zye_Patches_takeParts (by decide +kernel) (zt_Math_min hr1) trivial trivial rfl rfl rfl rfl rfl rfl rfl) zd137_4 zxt37 rfl (by decide) (by decide) rfl ?_
  refine zv_putf hB zd137_7 rfl rfl (fun h => by cases h) rfl ?_
  refine zv_con hB zd137_10 rfl ?_
  refine zv_ist hB zd137_11 rfl rfl rfl ?_
  obtain ⟨q8, hq8, h⟩ := zi_bind h
  refine zv_wk hB (L' := [.inr 0, .inr 1, .inr 1000, .inl 0]) (F' := [.inl r1]) ⟨fun _ => rfl, fun _ => rfl, fun (h : zv_is (.inr 1000)) => (Nat.lt_irrefl 1000 h).elim, fun _ => rfl, trivial⟩ ⟨fun _ => rfl, trivial⟩ ?_
  refine l0 _ _ _ _ q8 hq8 ?_
  show good 60 [.inr 1000, .inr 1000, .inr 1000, .inr 1000] [] [.inl r1] [q8, g1]
  have hw := Option.some.inj h
  subst hw
  exact hvret _ _ _ _ zd137_60 trivial ⟨rfl, rfl, rfl⟩
end
section
/-! Methods as functions, and that they do what these do. -/
/-! Patches_hasAll_24_12 ([II[II)Z -/
-- names: 0 (0, 24)('arg', 0), 1 (0, 12)('arg', 2)
-- fields: ; arrays: g0 = 0, g1 = 1; out: [('ret', None)]
abbrev zy_Patches_hasAll_24_12 : zNL := (2, [], [], [], [(0, 0, 24, 0), (1, 0, 12, 1)])
theorem zyw_Patches_hasAll_24_12 : zv_wf zy_Patches_hasAll_24_12 = true := by decide +kernel
theorem zye_Patches_hasAll_24_12 : zv_ek2 zy_Patches_hasAll_24_12 = true := by decide +kernel
def zf_Patches_hasAll_24_12_l1_b (x1 : Int) (x4 : Int) (g0 : (Int → Int)) (g1 : (Int → Int)) (rec : Int → Int → Option (Int)) (x5 : Int) (x6 : Int) : Option (Int) := if x6 < x1 then (if x5 = 0 then (cond (zi_ix x6 24) (cond (zi_ix x4 12) (if (g0 x6) = (g1 x4) then (rec 1 (zi_w (x6 + 1))) else (rec 0 (zi_w (x6 + 1)))) none) none) else (some x5)) else (some x5)
def zf_Patches_hasAll_24_12_l1 (x1 : Int) (x4 : Int) (g0 : (Int → Int)) (g1 : (Int → Int)) : Nat → Int → Int → Option (Int)
  | 0, _, _ => none
  | n + 1, x5, x6 => zf_Patches_hasAll_24_12_l1_b x1 x4 g0 g1 (zf_Patches_hasAll_24_12_l1 x1 x4 g0 g1 n) x5 x6
def zf_Patches_hasAll_24_12_l0_b (x1 : Int) (x3 : Int) (g0 : (Int → Int)) (g1 : (Int → Int)) (rec : Int → Option (((Unit) ⊕ (Int)))) (x4 : Int) : Option (((Unit) ⊕ (Int))) := if x4 < x3 then ((zf_Patches_hasAll_24_12_l1 x1 x4 g0 g1 zi_fu 0 0).bind fun q7 => (if q7 = 0 then (some (.inr 0)) else (rec (zi_w (x4 + 1))))) else (some (.inl ()))
def zf_Patches_hasAll_24_12_l0 (x1 : Int) (x3 : Int) (g0 : (Int → Int)) (g1 : (Int → Int)) : Nat → Int → Option (((Unit) ⊕ (Int)))
  | 0, _ => none
  | n + 1, x4 => zf_Patches_hasAll_24_12_l0_b x1 x3 g0 g1 (zf_Patches_hasAll_24_12_l0 x1 x3 g0 g1 n) x4
def zf_Patches_hasAll_24_12 (x1 : Int) (x3 : Int) (g0 : (Int → Int)) (g1 : (Int → Int)) : Option (Int) := (zf_Patches_hasAll_24_12_l0 x1 x3 g0 g1 zi_fu 0).bind fun q9 => Sum.elim (fun e10 => (some 1)) (fun w11 => some w11) q9
theorem zt_Patches_hasAll_24_12 {x1 : Int} {x3 : Int} {g0 : (Int → Int)} {g1 : (Int → Int)} {o : Int} (h : zf_Patches_hasAll_24_12 x1 x3 g0 g1 = some o) : zv_Fn z_TB z_cl z_KX zy_Patches_hasAll_24_12 zxm134 (0, 0) [.inr 0, .inl x1, .inr 1, .inl x3] [] [g0, g1] (some o) [] [g0, g1] := zv_meth (K := (z_KF5, z_KC5, z_KL5, z_KT5, [], [], [], none)) (FT := z_FT) (MT := z_MT) (n := 4) zxp134 (z_ks5 _ (fun _ h => List.mem_cons_of_mem _ h) _ _ _ _ (fun j r h _ => by cases h)) (fun _ _ => zs_KX_p) zyw_Patches_hasAll_24_12 (fun va F G h => by obtain ⟨rfl, _⟩ := h; rfl) (fun va F G h => by obtain ⟨rfl, _⟩ := h; rfl) rfl fun good va F G hB hret hvret hP => by
  obtain ⟨rfl, rfl, rfl⟩ := hP
  have l1 : ∀ (n : Nat) (x1 : Int) (x3 : Int) (x4 : Int) (x5 : Int) (x6 : Int) (q : Int), zf_Patches_hasAll_24_12_l1 x1 x4 g0 g1 n x5 x6 = some q → (good 50 [.inr 0, .inl x1, .inr 1, .inl x3, .inl x4, .inl q, .inr 1000] [] [] [g0, g1]) → good 15 [.inr 0, .inl x1, .inr 1, .inl x3, .inl x4, .inl x5, .inl x6] [] [] [g0, g1] := by
    intro n
    induction n with
    | zero => intro x1 x3 x4 x5 x6 q h; exact absurd (show none = some q from h) (fun h => by cases h)
    | succ n ih =>
      intro x1 x3 x4 x5 x6 q h hK
      replace h : zf_Patches_hasAll_24_12_l1_b x1 x4 g0 g1 (zf_Patches_hasAll_24_12_l1 x1 x4 g0 g1 n) x5 x6 = some q := h
      unfold zf_Patches_hasAll_24_12_l1_b at h
      refine zv_ild hB zd134_15 rfl rfl ?_
      refine zv_ild hB zd134_17 rfl rfl ?_
      refine zv_cge hB zd134_18 rfl (fun hc2 => ?_) (fun hc2 => ?_)
      · rw [if_neg (Int.not_lt.mpr hc2)] at h
        have hq := Option.some.inj h
        subst hq
        refine zv_wk hB (L' := [.inr 0, .inl x1, .inr 1, .inl x3, .inl x4, .inl x5, .inr 1000]) (F' := []) ⟨fun _ => rfl, fun _ => rfl, fun _ => rfl, fun _ => rfl, fun _ => rfl, fun _ => rfl, fun (h : zv_is (.inr 1000)) => (Nat.lt_irrefl 1000 h).elim, trivial⟩ trivial ?_
        exact hK
      · rw [if_pos hc2] at h
        refine zv_ild hB zd134_21 rfl rfl ?_
        refine zv_zne hB zd134_23 rfl (fun hc3 => ?_) (fun hc3 => ?_)
        · rw [if_neg hc3] at h
          have hq := Option.some.inj h
          subst hq
          refine zv_wk hB (L' := [.inr 0, .inl x1, .inr 1, .inl x3, .inl x4, .inl x5, .inr 1000]) (F' := []) ⟨fun _ => rfl, fun _ => rfl, fun _ => rfl, fun _ => rfl, fun _ => rfl, fun _ => rfl, fun (h : zv_is (.inr 1000)) => (Nat.lt_irrefl 1000 h).elim, trivial⟩ trivial ?_
          exact hK
        · rw [if_pos hc3] at h
          refine zv_ald hB zd134_26 rfl rfl rfl ?_
          refine zv_ild hB zd134_27 rfl rfl ?_
          obtain ⟨c4, h⟩ := zi_if h
          refine zv_iald hB zd134_29 rfl rfl (zi_ix_ok c4).1 (zi_ix_ok c4).2 (fun _ _ => ?_)
          refine zv_ald hB zd134_30 rfl rfl rfl ?_
          refine zv_ild hB zd134_31 rfl rfl ?_
          obtain ⟨c5, h⟩ := zi_if h
          refine zv_iald hB zd134_33 rfl rfl (zi_ix_ok c5).1 (zi_ix_ok c5).2 (fun _ _ => ?_)
          refine zv_cne hB zd134_34 rfl (fun hc6 => ?_) (fun hc6 => ?_)
          · rw [if_neg hc6] at h
            refine zv_con hB zd134_41 rfl ?_
            refine zv_ist hB zd134_42 rfl rfl rfl ?_
            refine zv_iincw hB zd134_44 rfl rfl ?_
            refine zv_goto hB zd134_47 rfl ?_
            exact ih _ _ _ _ _ q h hK
          · rw [if_pos hc6] at h
            refine zv_con hB zd134_37 rfl ?_
            refine zv_goto hB zd134_38 rfl ?_
            refine zv_ist hB zd134_42 rfl rfl rfl ?_
            refine zv_iincw hB zd134_44 rfl rfl ?_
            refine zv_goto hB zd134_47 rfl ?_
            exact ih _ _ _ _ _ q h hK
  have l0 : ∀ (n : Nat) (x1 : Int) (x3 : Int) (x4 : Int) (q : ((Unit) ⊕ (Int))), zf_Patches_hasAll_24_12_l0 x1 x3 g0 g1 n x4 = some q → (Sum.elim (fun e : Unit => good 63 [.inr 1000, .inr 1000, .inr 1000, .inr 1000, .inr 1000, .inr 1000, .inr 1000] [] [] [g0, g1]) (fun w : Int => w = o) q) → good 3 [.inr 0, .inl x1, .inr 1, .inl x3, .inl x4, .inr 1000, .inr 1000] [] [] [g0, g1] := by
    intro n
    induction n with
    | zero => intro x1 x3 x4 q h; exact absurd (show none = some q from h) (fun h => by cases h)
    | succ n ih =>
      intro x1 x3 x4 q h hK
      replace h : zf_Patches_hasAll_24_12_l0_b x1 x3 g0 g1 (zf_Patches_hasAll_24_12_l0 x1 x3 g0 g1 n) x4 = some q := h
      unfold zf_Patches_hasAll_24_12_l0_b at h
      refine zv_ild hB zd134_3 rfl rfl ?_
      refine zv_ild hB zd134_5 rfl rfl ?_
      refine zv_cge hB zd134_6 rfl (fun hc1 => ?_) (fun hc1 => ?_)
      · rw [if_neg (Int.not_lt.mpr hc1)] at h
        have hq := Option.some.inj h
        subst hq
        refine zv_wk hB (L' := [.inr 1000, .inr 1000, .inr 1000, .inr 1000, .inr 1000, .inr 1000, .inr 1000]) (F' := []) ⟨fun (h : zv_is (.inr 1000)) => (Nat.lt_irrefl 1000 h).elim, fun (h : zv_is (.inr 1000)) => (Nat.lt_irrefl 1000 h).elim, fun (h : zv_is (.inr 1000)) => (Nat.lt_irrefl 1000 h).elim, fun (h : zv_is (.inr 1000)) => (Nat.lt_irrefl 1000 h).elim, fun (h : zv_is (.inr 1000)) => (Nat.lt_irrefl 1000 h).elim, fun (h : zv_is (.inr 1000)) => (Nat.lt_irrefl 1000 h).elim, fun (h : zv_is (.inr 1000)) => (Nat.lt_irrefl 1000 h).elim, trivial⟩ trivial ?_
        exact hK
      · rw [if_pos hc1] at h
        refine zv_con hB zd134_9 rfl ?_
        refine zv_ist hB zd134_10 rfl rfl rfl ?_
        refine zv_con hB zd134_12 rfl ?_
        refine zv_ist hB zd134_13 rfl rfl rfl ?_
        obtain ⟨q7, hq7, h⟩ := zi_bind h
        refine l1 _ _ _ _ _ _ q7 hq7 ?_
        show good 50 [.inr 0, .inl x1, .inr 1, .inl x3, .inl x4, .inl q7, .inr 1000] [] [] [g0, g1]
        refine zv_ild hB zd134_50 rfl rfl ?_
        refine zv_zne hB zd134_52 rfl (fun hc8 => ?_) (fun hc8 => ?_)
        · rw [if_neg hc8] at h
          refine zv_iincw hB zd134_57 rfl rfl ?_
          refine zv_goto hB zd134_60 rfl ?_
          refine zv_wk hB (L' := [.inr 0, .inl x1, .inr 1, .inl x3, .inl (zi_w (x4 + 1)), .inr 1000, .inr 1000]) (F' := []) ⟨fun _ => rfl, fun _ => rfl, fun _ => rfl, fun _ => rfl, fun _ => rfl, fun (h : zv_is (.inr 1000)) => (Nat.lt_irrefl 1000 h).elim, fun (h : zv_is (.inr 1000)) => (Nat.lt_irrefl 1000 h).elim, trivial⟩ trivial ?_
          exact ih _ _ _ q h hK
        · rw [if_pos hc8] at h
          refine zv_con hB zd134_55 rfl ?_
          have hw : 0 = o := zi_rk (Option.some.inj h) hK
          subst hw
          exact hret _ _ _ _ _ zd134_56 (by constructor <;> decide) ⟨rfl, rfl, rfl⟩
  unfold zf_Patches_hasAll_24_12 at h
  refine zv_con hB zd134_0 rfl ?_
  refine zv_ist hB zd134_1 rfl rfl rfl ?_
  obtain ⟨q9, hq9, h⟩ := zi_bind h
  refine l0 _ _ _ _ q9 hq9 ?_
  rcases q9 with e10 | w11
  · replace h := zi_sl h
    show good 63 [.inr 1000, .inr 1000, .inr 1000, .inr 1000, .inr 1000, .inr 1000, .inr 1000] [] [] [g0, g1]
    refine zv_con hB zd134_63 rfl ?_
    have hw := Option.some.inj h
    subst hw
    exact hret _ _ _ _ _ zd134_64 (by constructor <;> decide) ⟨rfl, rfl, rfl⟩
  · exact Option.some.inj h
/-! Patches_hasAll_12_24 ([II[II)Z -/
-- names: 0 (0, 12)('arg', 0), 1 (0, 24)('arg', 2)
-- fields: ; arrays: g0 = 0, g1 = 1; out: [('ret', None)]
abbrev zy_Patches_hasAll_12_24 : zNL := (2, [], [], [], [(0, 0, 12, 0), (1, 0, 24, 1)])
theorem zyw_Patches_hasAll_12_24 : zv_wf zy_Patches_hasAll_12_24 = true := by decide +kernel
theorem zye_Patches_hasAll_12_24 : zv_ek2 zy_Patches_hasAll_12_24 = true := by decide +kernel
def zf_Patches_hasAll_12_24_l1_b (x1 : Int) (x4 : Int) (g0 : (Int → Int)) (g1 : (Int → Int)) (rec : Int → Int → Option (Int)) (x5 : Int) (x6 : Int) : Option (Int) := if x6 < x1 then (if x5 = 0 then (cond (zi_ix x6 12) (cond (zi_ix x4 24) (if (g0 x6) = (g1 x4) then (rec 1 (zi_w (x6 + 1))) else (rec 0 (zi_w (x6 + 1)))) none) none) else (some x5)) else (some x5)
def zf_Patches_hasAll_12_24_l1 (x1 : Int) (x4 : Int) (g0 : (Int → Int)) (g1 : (Int → Int)) : Nat → Int → Int → Option (Int)
  | 0, _, _ => none
  | n + 1, x5, x6 => zf_Patches_hasAll_12_24_l1_b x1 x4 g0 g1 (zf_Patches_hasAll_12_24_l1 x1 x4 g0 g1 n) x5 x6
def zf_Patches_hasAll_12_24_l0_b (x1 : Int) (x3 : Int) (g0 : (Int → Int)) (g1 : (Int → Int)) (rec : Int → Option (((Unit) ⊕ (Int)))) (x4 : Int) : Option (((Unit) ⊕ (Int))) := if x4 < x3 then ((zf_Patches_hasAll_12_24_l1 x1 x4 g0 g1 zi_fu 0 0).bind fun q7 => (if q7 = 0 then (some (.inr 0)) else (rec (zi_w (x4 + 1))))) else (some (.inl ()))
def zf_Patches_hasAll_12_24_l0 (x1 : Int) (x3 : Int) (g0 : (Int → Int)) (g1 : (Int → Int)) : Nat → Int → Option (((Unit) ⊕ (Int)))
  | 0, _ => none
  | n + 1, x4 => zf_Patches_hasAll_12_24_l0_b x1 x3 g0 g1 (zf_Patches_hasAll_12_24_l0 x1 x3 g0 g1 n) x4
def zf_Patches_hasAll_12_24 (x1 : Int) (x3 : Int) (g0 : (Int → Int)) (g1 : (Int → Int)) : Option (Int) := (zf_Patches_hasAll_12_24_l0 x1 x3 g0 g1 zi_fu 0).bind fun q9 => Sum.elim (fun e10 => (some 1)) (fun w11 => some w11) q9
theorem zt_Patches_hasAll_12_24 {x1 : Int} {x3 : Int} {g0 : (Int → Int)} {g1 : (Int → Int)} {o : Int} (h : zf_Patches_hasAll_12_24 x1 x3 g0 g1 = some o) : zv_Fn z_TB z_cl z_KX zy_Patches_hasAll_12_24 zxm134 (0, 0) [.inr 0, .inl x1, .inr 1, .inl x3] [] [g0, g1] (some o) [] [g0, g1] := zv_meth (K := (z_KF5, z_KC5, z_KL5, z_KT5, [], [], [], none)) (FT := z_FT) (MT := z_MT) (n := 4) zxp134 (z_ks5 _ (fun _ h => List.mem_cons_of_mem _ h) _ _ _ _ (fun j r h _ => by cases h)) (fun _ _ => zs_KX_p) zyw_Patches_hasAll_12_24 (fun va F G h => by obtain ⟨rfl, _⟩ := h; rfl) (fun va F G h => by obtain ⟨rfl, _⟩ := h; rfl) rfl fun good va F G hB hret hvret hP => by
  obtain ⟨rfl, rfl, rfl⟩ := hP
  have l1 : ∀ (n : Nat) (x1 : Int) (x3 : Int) (x4 : Int) (x5 : Int) (x6 : Int) (q : Int), zf_Patches_hasAll_12_24_l1 x1 x4 g0 g1 n x5 x6 = some q → (good 50 [.inr 0, .inl x1, .inr 1, .inl x3, .inl x4, .inl q, .inr 1000] [] [] [g0, g1]) → good 15 [.inr 0, .inl x1, .inr 1, .inl x3, .inl x4, .inl x5, .inl x6] [] [] [g0, g1] := by
    intro n
    induction n with
    | zero => intro x1 x3 x4 x5 x6 q h; exact absurd (show none = some q from h) (fun h => by cases h)
    | succ n ih =>
      intro x1 x3 x4 x5 x6 q h hK
      replace h : zf_Patches_hasAll_12_24_l1_b x1 x4 g0 g1 (zf_Patches_hasAll_12_24_l1 x1 x4 g0 g1 n) x5 x6 = some q := h
      unfold zf_Patches_hasAll_12_24_l1_b at h
      refine zv_ild hB zd134_15 rfl rfl ?_
      refine zv_ild hB zd134_17 rfl rfl ?_
      refine zv_cge hB zd134_18 rfl (fun hc2 => ?_) (fun hc2 => ?_)
      · rw [if_neg (Int.not_lt.mpr hc2)] at h
        have hq := Option.some.inj h
        subst hq
        refine zv_wk hB (L' := [.inr 0, .inl x1, .inr 1, .inl x3, .inl x4, .inl x5, .inr 1000]) (F' := []) ⟨fun _ => rfl, fun _ => rfl, fun _ => rfl, fun _ => rfl, fun _ => rfl, fun _ => rfl, fun (h : zv_is (.inr 1000)) => (Nat.lt_irrefl 1000 h).elim, trivial⟩ trivial ?_
        exact hK
      · rw [if_pos hc2] at h
        refine zv_ild hB zd134_21 rfl rfl ?_
        refine zv_zne hB zd134_23 rfl (fun hc3 => ?_) (fun hc3 => ?_)
        · rw [if_neg hc3] at h
          have hq := Option.some.inj h
          subst hq
          refine zv_wk hB (L' := [.inr 0, .inl x1, .inr 1, .inl x3, .inl x4, .inl x5, .inr 1000]) (F' := []) ⟨fun _ => rfl, fun _ => rfl, fun _ => rfl, fun _ => rfl, fun _ => rfl, fun _ => rfl, fun (h : zv_is (.inr 1000)) => (Nat.lt_irrefl 1000 h).elim, trivial⟩ trivial ?_
          exact hK
        · rw [if_pos hc3] at h
          refine zv_ald hB zd134_26 rfl rfl rfl ?_
          refine zv_ild hB zd134_27 rfl rfl ?_
          obtain ⟨c4, h⟩ := zi_if h
          refine zv_iald hB zd134_29 rfl rfl (zi_ix_ok c4).1 (zi_ix_ok c4).2 (fun _ _ => ?_)
          refine zv_ald hB zd134_30 rfl rfl rfl ?_
          refine zv_ild hB zd134_31 rfl rfl ?_
          obtain ⟨c5, h⟩ := zi_if h
          refine zv_iald hB zd134_33 rfl rfl (zi_ix_ok c5).1 (zi_ix_ok c5).2 (fun _ _ => ?_)
          refine zv_cne hB zd134_34 rfl (fun hc6 => ?_) (fun hc6 => ?_)
          · rw [if_neg hc6] at h
            refine zv_con hB zd134_41 rfl ?_
            refine zv_ist hB zd134_42 rfl rfl rfl ?_
            refine zv_iincw hB zd134_44 rfl rfl ?_
            refine zv_goto hB zd134_47 rfl ?_
            exact ih _ _ _ _ _ q h hK
          · rw [if_pos hc6] at h
            refine zv_con hB zd134_37 rfl ?_
            refine zv_goto hB zd134_38 rfl ?_
            refine zv_ist hB zd134_42 rfl rfl rfl ?_
            refine zv_iincw hB zd134_44 rfl rfl ?_
            refine zv_goto hB zd134_47 rfl ?_
            exact ih _ _ _ _ _ q h hK
  have l0 : ∀ (n : Nat) (x1 : Int) (x3 : Int) (x4 : Int) (q : ((Unit) ⊕ (Int))), zf_Patches_hasAll_12_24_l0 x1 x3 g0 g1 n x4 = some q → (Sum.elim (fun e : Unit => good 63 [.inr 1000, .inr 1000, .inr 1000, .inr 1000, .inr 1000, .inr 1000, .inr 1000] [] [] [g0, g1]) (fun w : Int => w = o) q) → good 3 [.inr 0, .inl x1, .inr 1, .inl x3, .inl x4, .inr 1000, .inr 1000] [] [] [g0, g1] := by
    intro n
    induction n with
    | zero => intro x1 x3 x4 q h; exact absurd (show none = some q from h) (fun h => by cases h)
    | succ n ih =>
      intro x1 x3 x4 q h hK
      replace h : zf_Patches_hasAll_12_24_l0_b x1 x3 g0 g1 (zf_Patches_hasAll_12_24_l0 x1 x3 g0 g1 n) x4 = some q := h
      unfold zf_Patches_hasAll_12_24_l0_b at h
      refine zv_ild hB zd134_3 rfl rfl ?_
      refine zv_ild hB zd134_5 rfl rfl ?_
      refine zv_cge hB zd134_6 rfl (fun hc1 => ?_) (fun hc1 => ?_)
      · rw [if_neg (Int.not_lt.mpr hc1)] at h
        have hq := Option.some.inj h
        subst hq
        refine zv_wk hB (L' := [.inr 1000, .inr 1000, .inr 1000, .inr 1000, .inr 1000, .inr 1000, .inr 1000]) (F' := []) ⟨fun (h : zv_is (.inr 1000)) => (Nat.lt_irrefl 1000 h).elim, fun (h : zv_is (.inr 1000)) => (Nat.lt_irrefl 1000 h).elim, fun (h : zv_is (.inr 1000)) => (Nat.lt_irrefl 1000 h).elim, fun (h : zv_is (.inr 1000)) => (Nat.lt_irrefl 1000 h).elim, fun (h : zv_is (.inr 1000)) => (Nat.lt_irrefl 1000 h).elim, fun (h : zv_is (.inr 1000)) => (Nat.lt_irrefl 1000 h).elim, fun (h : zv_is (.inr 1000)) => (Nat.lt_irrefl 1000 h).elim, trivial⟩ trivial ?_
        exact hK
      · rw [if_pos hc1] at h
        refine zv_con hB zd134_9 rfl ?_
        refine zv_ist hB zd134_10 rfl rfl rfl ?_
        refine zv_con hB zd134_12 rfl ?_
        refine zv_ist hB zd134_13 rfl rfl rfl ?_
        obtain ⟨q7, hq7, h⟩ := zi_bind h
        refine l1 _ _ _ _ _ _ q7 hq7 ?_
        show good 50 [.inr 0, .inl x1, .inr 1, .inl x3, .inl x4, .inl q7, .inr 1000] [] [] [g0, g1]
        refine zv_ild hB zd134_50 rfl rfl ?_
        refine zv_zne hB zd134_52 rfl (fun hc8 => ?_) (fun hc8 => ?_)
        · rw [if_neg hc8] at h
          refine zv_iincw hB zd134_57 rfl rfl ?_
          refine zv_goto hB zd134_60 rfl ?_
          refine zv_wk hB (L' := [.inr 0, .inl x1, .inr 1, .inl x3, .inl (zi_w (x4 + 1)), .inr 1000, .inr 1000]) (F' := []) ⟨fun _ => rfl, fun _ => rfl, fun _ => rfl, fun _ => rfl, fun _ => rfl, fun (h : zv_is (.inr 1000)) => (Nat.lt_irrefl 1000 h).elim, fun (h : zv_is (.inr 1000)) => (Nat.lt_irrefl 1000 h).elim, trivial⟩ trivial ?_
          exact ih _ _ _ q h hK
        · rw [if_pos hc8] at h
          refine zv_con hB zd134_55 rfl ?_
          have hw : 0 = o := zi_rk (Option.some.inj h) hK
          subst hw
          exact hret _ _ _ _ _ zd134_56 (by constructor <;> decide) ⟨rfl, rfl, rfl⟩
  unfold zf_Patches_hasAll_12_24 at h
  refine zv_con hB zd134_0 rfl ?_
  refine zv_ist hB zd134_1 rfl rfl rfl ?_
  obtain ⟨q9, hq9, h⟩ := zi_bind h
  refine l0 _ _ _ _ q9 hq9 ?_
  rcases q9 with e10 | w11
  · replace h := zi_sl h
    show good 63 [.inr 1000, .inr 1000, .inr 1000, .inr 1000, .inr 1000, .inr 1000, .inr 1000] [] [] [g0, g1]
    refine zv_con hB zd134_63 rfl ?_
    have hw := Option.some.inj h
    subst hw
    exact hret _ _ _ _ _ zd134_64 (by constructor <;> decide) ⟨rfl, rfl, rfl⟩
  · exact Option.some.inj h
/-! Patches_isKnown (LStarTales$View;Z)Z -/
-- names: 0 Patches('arg', 0), 1 View('arg', 1), 2 (0, 24)(0, 10, 4), 3 Sky(0, 10, 6), 4 (0, 24)(3, 1, 1), 5 (0, 24)(3, 1, 2), 6 (0, 24)(3, 1, 3), 7 (0, 12)(0, 10, 2)
-- fields: f0 = 1.shown_, f1 = 1.x_, f2 = 1.y_, f3 = 3.hour_, f4 = 0.toldParts_; arrays: g0 = 2, g1 = 4, g2 = 5, g3 = 6, g4 = 7; out: [('ret', None), ('g', 0)]
abbrev zy_Patches_isKnown : zNL := (8, [(0, 10), (1, 7), (3, 1)], [(1, 7, 4, 0), (1, 7, 2, 1), (1, 7, 3, 2), (3, 1, 6, 3), (0, 10, 3, 4)], [(0, 10, 4, 2), (0, 10, 6, 3), (3, 1, 1, 4), (3, 1, 2, 5), (3, 1, 3, 6), (0, 10, 2, 7)], [(2, 0, 24, 0), (4, 0, 24, 1), (5, 0, 24, 2), (6, 0, 24, 3), (7, 0, 12, 4)])
theorem zyw_Patches_isKnown : zv_wf zy_Patches_isKnown = true := by decide +kernel
theorem zye_Patches_isKnown : zv_ek2 zy_Patches_isKnown = true := by decide +kernel
def zf_Patches_isKnown (x2 : Int) (f0 : Int) (f1 : Int) (f2 : Int) (f3 : Int) (f4 : Int) (g0 : (Int → Int)) (g1 : (Int → Int)) (g2 : (Int → Int)) (g3 : (Int → Int)) (g4 : (Int → Int)) : Option (Int × (Int → Int)) := (zf_X_placeOf f1 f2).bind fun r1 => ((zf_Patches_fillParts_24 f0 r1 f3 g0 g1 g2 g3).bind fun r2 => ((zf_Patches_hasAll_24_12 r2.1 f4 r2.2 g4).bind fun r3 => (if r3 = 0 then (some (0, r2.2)) else (if x2 = 0 then (some (1, r2.2)) else ((zf_Patches_hasAll_12_24 f4 r2.1 g4 r2.2).bind fun r6 => (if r6 = 0 then (some (0, r2.2)) else (some (1, r2.2))))))))
theorem zd139_0 : decode zxm139.2.1 0 = .ok (.aload_n 0, 1) := by decide +kernel
theorem zd139_1 : decode zxm139.2.1 1 = .ok (.aload_n 1, 1) := by decide +kernel
theorem zd139_2 : decode zxm139.2.1 2 = .ok (.getfield 49, 3) := by decide +kernel
theorem zd139_5 : decode zxm139.2.1 5 = .ok (.aload_n 1, 1) := by decide +kernel
theorem zd139_6 : decode zxm139.2.1 6 = .ok (.getfield 97, 3) := by decide +kernel
theorem zd139_9 : decode zxm139.2.1 9 = .ok (.aload_n 1, 1) := by decide +kernel
theorem zd139_10 : decode zxm139.2.1 10 = .ok (.getfield 100, 3) := by decide +kernel
theorem zd139_13 : decode zxm139.2.1 13 = .ok (.invokestatic 103, 3) := by decide +kernel
theorem zd139_16 : decode zxm139.2.1 16 = .ok (.aload_n 0, 1) := by decide +kernel
theorem zd139_17 : decode zxm139.2.1 17 = .ok (.getfield 26, 3) := by decide +kernel
theorem zd139_20 : decode zxm139.2.1 20 = .ok (.invokevirtual 52, 3) := by decide +kernel
theorem zd139_23 : decode zxm139.2.1 23 = .ok (.istore_n 3, 1) := by decide +kernel
theorem zd139_24 : decode zxm139.2.1 24 = .ok (.aload_n 0, 1) := by decide +kernel
theorem zd139_25 : decode zxm139.2.1 25 = .ok (.getfield 26, 3) := by decide +kernel
theorem zd139_28 : decode zxm139.2.1 28 = .ok (.iload_n 3, 1) := by decide +kernel
theorem zd139_29 : decode zxm139.2.1 29 = .ok (.aload_n 0, 1) := by decide +kernel
theorem zd139_30 : decode zxm139.2.1 30 = .ok (.getfield 19, 3) := by decide +kernel
theorem zd139_33 : decode zxm139.2.1 33 = .ok (.aload_n 0, 1) := by decide +kernel
theorem zd139_34 : decode zxm139.2.1 34 = .ok (.getfield 22, 3) := by decide +kernel
theorem zd139_37 : decode zxm139.2.1 37 = .ok (.invokestatic 85, 3) := by decide +kernel
theorem zd139_40 : decode zxm139.2.1 40 = .ok (.ifCond .eq 30, 3) := by decide +kernel
theorem zd139_43 : decode zxm139.2.1 43 = .ok (.iload_n 2, 1) := by decide +kernel
theorem zd139_44 : decode zxm139.2.1 44 = .ok (.ifCond .eq 22, 3) := by decide +kernel
theorem zd139_47 : decode zxm139.2.1 47 = .ok (.aload_n 0, 1) := by decide +kernel
theorem zd139_48 : decode zxm139.2.1 48 = .ok (.getfield 19, 3) := by decide +kernel
theorem zd139_51 : decode zxm139.2.1 51 = .ok (.aload_n 0, 1) := by decide +kernel
theorem zd139_52 : decode zxm139.2.1 52 = .ok (.getfield 22, 3) := by decide +kernel
theorem zd139_55 : decode zxm139.2.1 55 = .ok (.aload_n 0, 1) := by decide +kernel
theorem zd139_56 : decode zxm139.2.1 56 = .ok (.getfield 26, 3) := by decide +kernel
theorem zd139_59 : decode zxm139.2.1 59 = .ok (.iload_n 3, 1) := by decide +kernel
theorem zd139_60 : decode zxm139.2.1 60 = .ok (.invokestatic 85, 3) := by decide +kernel
theorem zd139_63 : decode zxm139.2.1 63 = .ok (.ifCond .eq 7, 3) := by decide +kernel
theorem zd139_66 : decode zxm139.2.1 66 = .ok (.iconst 1, 1) := by decide +kernel
theorem zd139_67 : decode zxm139.2.1 67 = .ok (.goto 4, 3) := by decide +kernel
theorem zd139_70 : decode zxm139.2.1 70 = .ok (.iconst 0, 1) := by decide +kernel
theorem zd139_71 : decode zxm139.2.1 71 = .ok (.ireturn, 1) := by decide +kernel
theorem zt_Patches_isKnown {x2 : Int} {f0 : Int} {f1 : Int} {f2 : Int} {f3 : Int} {f4 : Int} {g0 : (Int → Int)} {g1 : (Int → Int)} {g2 : (Int → Int)} {g3 : (Int → Int)} {g4 : (Int → Int)} {o : Int × (Int → Int)} (h : zf_Patches_isKnown x2 f0 f1 f2 f3 f4 g0 g1 g2 g3 g4 = some o) : zv_Fn z_TB z_cl z_KX zy_Patches_isKnown zxm139 (2, 120) [.inr 0, .inr 1, .inl x2] [.inl f0, .inl f1, .inl f2, .inl f3, .inl f4] [g0, g1, g2, g3, g4] (some o.1) [.inl f0, .inl f1, .inl f2, .inl f3, .inl f4] [o.2, g1, g2, g3, g4] := zv_meth (K := (z_KF5, z_KC5, z_KL5, z_KT5, [], [], [], none)) (FT := z_FT) (MT := z_MT) (n := 3) zxp139 (z_ks5 _ (fun _ h => List.mem_cons_of_mem _ h) _ _ _ _ (fun j r h _ => by cases h)) (fun _ _ => zs_KX_p) zyw_Patches_isKnown (fun va F G h => by obtain ⟨rfl, _⟩ := h; rfl) (fun va F G h => by obtain ⟨rfl, _⟩ := h; rfl) rfl fun good va F G hB hret hvret hP => by
  obtain ⟨rfl, rfl, rfl⟩ := hP
  unfold zf_Patches_isKnown at h
  refine zv_ald hB zd139_0 rfl rfl rfl ?_
  refine zv_ald hB zd139_1 rfl rfl rfl ?_
  refine zv_getf hB zd139_2 rfl rfl (fun _ _ => ?_)
  refine zv_ald hB zd139_5 rfl rfl rfl ?_
  refine zv_getf hB zd139_6 rfl rfl (fun _ _ => ?_)
  refine zv_ald hB zd139_9 rfl rfl rfl ?_
  refine zv_getf hB zd139_10 rfl rfl (fun _ _ => ?_)
  obtain ⟨r1, hr1, h⟩ := zi_bind h
  refine zv_cs hB (zv_emq (va2 := [.inl f1, .inl f2]) (F := [.inl f0, .inl f1, .inl f2, .inl f3, .inl f4]) (F' := [.inl f0, .inl f1, .inl f2, .inl f3, .inl f4]) (G := [g0, g1, g2, g3, g4]) (G' := [g0, g1, g2, g3, g4]) (ρ := []) (φ := []) (ψ := []) [none, none, none, none, none] [none, none, none, none, none] zyw_X_placeOf zyw_Patches_isKnown zye_Patches_isKnown (by decide +kernel) (zt_X_placeOf hr1) trivial trivial rfl rfl rfl rfl rfl rfl rfl) zd139_13 zxt24 rfl (by decide) (by decide) rfl ?_
  refine zv_ald hB zd139_16 rfl rfl rfl ?_
  refine zv_getr hB zd139_17 rfl ?_
  obtain ⟨r2, hr2, h⟩ := zi_bind h
  refine zv_cv hB (zv_emq (va2 := [.inr 0, .inl f0, .inl r1, .inr 2]) (F := [.inl f0, .inl f1, .inl f2, .inl f3, .inl f4]) (F' := [.inl f0, .inl f1, .inl f2, .inl f3, .inl f4]) (G := [g0, g1, g2, g3, g4]) (G' := [r2.2, g1, g2, g3, g4]) (ρ := [0, 2, 3, 4, 5, 6]) (φ := [3]) (ψ := [0, 1, 2, 3]) [none, none, none, some 0, none] [some 0, some 1, some 2, some 3, none] zyw_Patches_fillParts_24 zyw_Patches_isKnown zye_Patches_isKnown (by decide +kernel) (zt_Patches_fillParts_24 hr2) ⟨⟨_, rfl, fun _ => rfl⟩, trivial⟩ ⟨rfl, rfl, rfl, rfl, trivial⟩ rfl rfl rfl rfl rfl rfl rfl) zd139_20 zxt128 rfl (by decide) (by decide) rfl ?_
  refine zv_ist hB zd139_23 rfl rfl rfl ?_
  refine zv_ald hB zd139_24 rfl rfl rfl ?_
  refine zv_getr hB zd139_25 rfl ?_
  refine zv_ild hB zd139_28 rfl rfl ?_
  refine zv_ald hB zd139_29 rfl rfl rfl ?_
  refine zv_getr hB zd139_30 rfl ?_
  refine zv_ald hB zd139_33 rfl rfl rfl ?_
  refine zv_getf hB zd139_34 rfl rfl (fun _ _ => ?_)
  obtain ⟨r3, hr3, h⟩ := zi_bind h
  refine zv_cs hB (zv_emq (va2 := [.inr 2, .inl r2.1, .inr 7, .inl f4]) (F := [.inl f0, .inl f1, .inl f2, .inl f3, .inl f4]) (F' := [.inl f0, .inl f1, .inl f2, .inl f3, .inl f4]) (G := [r2.2, g1, g2, g3, g4]) (G' := [r2.2, g1, g2, g3, g4]) (ρ := [2, 7]) (φ := []) (ψ := [0, 4]) [none, none, none, none, none] [some 0, none, none, none, some 1] zyw_Patches_hasAll_24_12 zyw_Patches_isKnown zye_Patches_isKnown (by decide +kernel) (zt_Patches_hasAll_24_12 hr3) trivial ⟨rfl, rfl, trivial⟩ rfl rfl rfl rfl rfl rfl rfl) zd139_37 zxt134 rfl (by decide) (by decide) rfl ?_
  refine zv_zeq hB zd139_40 rfl (fun hc4 => ?_) (fun hc4 => ?_)
  · rw [if_pos hc4] at h
    refine zv_con hB zd139_70 rfl ?_
    have hw := Option.some.inj h
    subst hw
    exact hret _ _ _ _ _ zd139_71 (by constructor <;> decide) ⟨rfl, rfl, rfl⟩
  · rw [if_neg hc4] at h
    refine zv_ild hB zd139_43 rfl rfl ?_
    refine zv_zeq hB zd139_44 rfl (fun hc5 => ?_) (fun hc5 => ?_)
    · rw [if_pos hc5] at h
      refine zv_con hB zd139_66 rfl ?_
      refine zv_goto hB zd139_67 rfl ?_
      have hw := Option.some.inj h
      subst hw
      exact hret _ _ _ _ _ zd139_71 (by constructor <;> decide) ⟨rfl, rfl, rfl⟩
    · rw [if_neg hc5] at h
      refine zv_ald hB zd139_47 rfl rfl rfl ?_
      refine zv_getr hB zd139_48 rfl ?_
      refine zv_ald hB zd139_51 rfl rfl rfl ?_
      refine zv_getf hB zd139_52 rfl rfl (fun _ _ => ?_)
      refine zv_ald hB zd139_55 rfl rfl rfl ?_
      refine zv_getr hB zd139_56 rfl ?_
      refine zv_ild hB zd139_59 rfl rfl ?_
      obtain ⟨r6, hr6, h⟩ := zi_bind h
      refine zv_cs hB (zv_emq (va2 := [.inr 7, .inl f4, .inr 2, .inl r2.1]) (F := [.inl f0, .inl f1, .inl f2, .inl f3, .inl f4]) (F' := [.inl f0, .inl f1, .inl f2, .inl f3, .inl f4]) (G := [r2.2, g1, g2, g3, g4]) (G' := [r2.2, g1, g2, g3, g4]) (ρ := [7, 2]) (φ := []) (ψ := [4, 0]) [none, none, none, none, none] [some 1, none, none, none, some 0] zyw_Patches_hasAll_12_24 zyw_Patches_isKnown zye_Patches_isKnown (by decide +kernel) (zt_Patches_hasAll_12_24 hr6) trivial ⟨rfl, rfl, trivial⟩ rfl rfl rfl rfl rfl rfl rfl) zd139_60 zxt134 rfl (by decide) (by decide) rfl ?_
      refine zv_zeq hB zd139_63 rfl (fun hc7 => ?_) (fun hc7 => ?_)
      · rw [if_pos hc7] at h
        refine zv_con hB zd139_70 rfl ?_
        have hw := Option.some.inj h
        subst hw
        exact hret _ _ _ _ _ zd139_71 (by constructor <;> decide) ⟨rfl, rfl, rfl⟩
      · rw [if_neg hc7] at h
        refine zv_con hB zd139_66 rfl ?_
        refine zv_goto hB zd139_67 rfl ?_
        have hw := Option.some.inj h
        subst hw
        exact hret _ _ _ _ _ zd139_71 (by constructor <;> decide) ⟨rfl, rfl, rfl⟩
/-! X_known (II)I -/
-- names: 0 StarTales('arg', 0), 1 Tape(0, 0, 6), 2 View(0, 0, 12), 3 Sky(0, 0, 0), 4 Law(0, 0, 7), 5 (0, 24)(2, 7, 8), 6 Patches(0, 0, 16), 7 (0, 12)(6, 10, 2), 8 (0, 220)(1, 3, 0), 9 (0, 13)(4, 4, 12), 10 (0, 24)(3, 1, 1), 11 (0, 24)(3, 1, 2), 12 (0, 24)(3, 1, 3), 13 (0, 14)(4, 4, 3), 14 (0, 14)(4, 4, 5), 15 (0, 14)(4, 4, 6), 16 (0, 200)(4, 4, 0), 17 (0, 40)(4, 4, 13), 18 (0, 200)(4, 4, 1), 19 (0, 24)(6, 10, 4)
-- fields: f0 = 1.size_, f1 = 0.ruling_, f2 = 2.sky_, f3 = 2.law_, f4 = 2.starsAsked_, f5 = 6.toldParts_, f6 = 2.x_, f7 = 2.y_, f8 = 3.hour_, f9 = 3.night_, f10 = 2.shown_, f11 = 3.told_, f12 = 3.sightColumns_, f13 = 3.sightRows_, f14 = 3.clouds_, f15 = 4.tellsSeen_, f16 = 2.starsHold_, f17 = 4.clauses_, f18 = 4.answer_, f19 = 4.seenByPlace_; arrays: g0 = 5, g1 = 7, g2 = 8, g3 = 9, g4 = 10, g5 = 11, g6 = 12, g7 = 13, g8 = 14, g9 = 15, g10 = 16, g11 = 17, g12 = 18, g13 = 19; out: [('ret', None), ('f', 0), ('f', 4), ('f', 5), ('f', 6), ('f', 7), ('f', 10), ('f', 16), ('f', 18), ('g', 0), ('g', 1), ('g', 3), ('g', 11), ('g', 13)]
abbrev zy_X_known : zNL := (20, [(0, 0), (1, 3), (2, 7), (3, 1), (4, 4), (6, 10)], [(1, 3, 1, 0), (0, 0, 7, 1), (2, 7, 0, 2), (2, 7, 1, 3), (2, 7, 6, 4), (6, 10, 3, 5), (2, 7, 2, 6), (2, 7, 3, 7), (3, 1, 6, 8), (3, 1, 7, 9), (2, 7, 4, 10), (3, 1, 0, 11), (3, 1, 9, 12), (3, 1, 10, 13), (3, 1, 8, 14), (4, 4, 8, 15), (2, 7, 7, 16), (4, 4, 7, 17), (4, 4, 14, 18), (4, 4, 10, 19)], [(0, 0, 6, 1), (0, 0, 12, 2), (0, 0, 0, 3), (2, 7, 8, 5), (0, 0, 16, 6), (6, 10, 2, 7), (1, 3, 0, 8), (4, 4, 12, 9), (3, 1, 1, 10), (3, 1, 2, 11), (3, 1, 3, 12), (4, 4, 3, 13), (4, 4, 5, 14), (4, 4, 6, 15), (4, 4, 0, 16), (4, 4, 13, 17), (4, 4, 1, 18), (6, 10, 4, 19), (6, 10, 6, 3)], [(5, 0, 24, 0), (7, 0, 12, 1), (8, 0, 220, 2), (9, 0, 13, 3), (10, 0, 24, 4), (11, 0, 24, 5), (12, 0, 24, 6), (13, 0, 14, 7), (14, 0, 14, 8), (15, 0, 14, 9), (16, 0, 200, 10), (17, 0, 40, 11), (18, 0, 200, 12), (19, 0, 24, 13)])
theorem zyw_X_known : zv_wf zy_X_known = true := by decide +kernel
theorem zye_X_known : zv_ek2 zy_X_known = true := by decide +kernel
def zf_X_known_l0_b (x2 : Int) (f0 : Int) (f5 : Int) (f8 : Int) (f9 : Int) (f11 : Int) (f12 : Int) (f13 : Int) (f14 : Int) (f15 : Int) (f17 : Int) (f19 : Int) (g0 : (Int → Int)) (g1 : (Int → Int)) (g4 : (Int → Int)) (g5 : (Int → Int)) (g6 : (Int → Int)) (g7 : (Int → Int)) (g8 : (Int → Int)) (g9 : (Int → Int)) (g10 : (Int → Int)) (g12 : (Int → Int)) (rec : Int → Int → Int → Int → Int → Int → Int → Int → (Int → Int) → (Int → Int) → (Int → Int) → Option (((Int × Int × Int × Int × Int × Int × Int × (Int → Int) × (Int → Int) × (Int → Int)) ⊕ (Int × Int × Int × Int × Int × Int × Int × Int × Int × (Int → Int) × (Int → Int) × (Int → Int) × (Int → Int) × (Int → Int))))) (x3 : Int) (x4 : Int) (f4 : Int) (f6 : Int) (f7 : Int) (f10 : Int) (f16 : Int) (f18 : Int) (g3 : (Int → Int)) (g11 : (Int → Int)) (g13 : (Int → Int)) : Option (((Int × Int × Int × Int × Int × Int × Int × (Int → Int) × (Int → Int) × (Int → Int)) ⊕ (Int × Int × Int × Int × Int × Int × Int × Int × Int × (Int → Int) × (Int → Int) × (Int → Int) × (Int → Int) × (Int → Int)))) := if x4 < 288 then ((zf_X_columnOf x4).bind fun r10 => ((zf_X_rowOf x4).bind fun r11 => ((zf_View_look r10 r11 f6 f7 f8 f9 f10 f11 f12 f13 f14 f15 f4 f16 f17 f18 f19 g3 g4 g5 g6 g7 g8 g9 g10 g11 g12).bind fun r12 => (if x2 < 2 then ((zf_Patches_isKnown 0 r12.2.2.1 r12.1 r12.2.1 f8 f5 g13 g4 g5 g6 g1).bind fun r14 => (if r14.1 = 0 then (rec x3 (zi_w (x4 + 1)) r12.2.2.2.1 r12.1 r12.2.1 r12.2.2.1 r12.2.2.2.2.1 r12.2.2.2.2.2.1 r12.2.2.2.2.2.2.1 r12.2.2.2.2.2.2.2 r14.2) else (if (zi_rem x2 2) = 1 then (some (.inr (x4, f0, r12.2.2.2.1, f5, r12.1, r12.2.1, r12.2.2.1, r12.2.2.2.2.1, r12.2.2.2.2.2.1, g0, g1, r12.2.2.2.2.2.2.1, r12.2.2.2.2.2.2.2, r14.2))) else (rec (zi_w (x3 + 1)) (zi_w (x4 + 1)) r12.2.2.2.1 r12.1 r12.2.1 r12.2.2.1 r12.2.2.2.2.1 r12.2.2.2.2.2.1 r12.2.2.2.2.2.2.1 r12.2.2.2.2.2.2.2 r14.2)))) else ((zf_Patches_isKnown 1 r12.2.2.1 r12.1 r12.2.1 f8 f5 g13 g4 g5 g6 g1).bind fun r17 => (if r17.1 = 0 then (rec x3 (zi_w (x4 + 1)) r12.2.2.2.1 r12.1 r12.2.1 r12.2.2.1 r12.2.2.2.2.1 r12.2.2.2.2.2.1 r12.2.2.2.2.2.2.1 r12.2.2.2.2.2.2.2 r17.2) else (if (zi_rem x2 2) = 1 then (some (.inr (x4, f0, r12.2.2.2.1, f5, r12.1, r12.2.1, r12.2.2.1, r12.2.2.2.2.1, r12.2.2.2.2.2.1, g0, g1, r12.2.2.2.2.2.2.1, r12.2.2.2.2.2.2.2, r17.2))) else (rec (zi_w (x3 + 1)) (zi_w (x4 + 1)) r12.2.2.2.1 r12.1 r12.2.1 r12.2.2.1 r12.2.2.2.2.1 r12.2.2.2.2.2.1 r12.2.2.2.2.2.2.1 r12.2.2.2.2.2.2.2 r17.2)))))))) else (some (.inl (x3, f4, f6, f7, f10, f16, f18, g3, g11, g13)))
def zf_X_known_l0 (x2 : Int) (f0 : Int) (f5 : Int) (f8 : Int) (f9 : Int) (f11 : Int) (f12 : Int) (f13 : Int) (f14 : Int) (f15 : Int) (f17 : Int) (f19 : Int) (g0 : (Int → Int)) (g1 : (Int → Int)) (g4 : (Int → Int)) (g5 : (Int → Int)) (g6 : (Int → Int)) (g7 : (Int → Int)) (g8 : (Int → Int)) (g9 : (Int → Int)) (g10 : (Int → Int)) (g12 : (Int → Int)) : Nat → Int → Int → Int → Int → Int → Int → Int → Int → (Int → Int) → (Int → Int) → (Int → Int) → Option (((Int × Int × Int × Int × Int × Int × Int × (Int → Int) × (Int → Int) × (Int → Int)) ⊕ (Int × Int × Int × Int × Int × Int × Int × Int × Int × (Int → Int) × (Int → Int) × (Int → Int) × (Int → Int) × (Int → Int))))
  | 0, _, _, _, _, _, _, _, _, _, _, _ => none
  | n + 1, x3, x4, f4, f6, f7, f10, f16, f18, g3, g11, g13 => zf_X_known_l0_b x2 f0 f5 f8 f9 f11 f12 f13 f14 f15 f17 f19 g0 g1 g4 g5 g6 g7 g8 g9 g10 g12 (zf_X_known_l0 x2 f0 f5 f8 f9 f11 f12 f13 f14 f15 f17 f19 g0 g1 g4 g5 g6 g7 g8 g9 g10 g12 n) x3 x4 f4 f6 f7 f10 f16 f18 g3 g11 g13
def zf_X_known (x1 : Int) (x2 : Int) (f0 : Int) (f4 : Int) (f5 : Int) (f6 : Int) (f7 : Int) (f8 : Int) (f9 : Int) (f10 : Int) (f11 : Int) (f12 : Int) (f13 : Int) (f14 : Int) (f15 : Int) (f16 : Int) (f17 : Int) (f18 : Int) (f19 : Int) (g0 : (Int → Int)) (g1 : (Int → Int)) (g2 : (Int → Int)) (g3 : (Int → Int)) (g4 : (Int → Int)) (g5 : (Int → Int)) (g6 : (Int → Int)) (g7 : (Int → Int)) (g8 : (Int → Int)) (g9 : (Int → Int)) (g10 : (Int → Int)) (g11 : (Int → Int)) (g12 : (Int → Int)) (g13 : (Int → Int)) : Option (Int × Int × Int × Int × Int × Int × Int × Int × Int × (Int → Int) × (Int → Int) × (Int → Int) × (Int → Int) × (Int → Int)) := (zf_X_isWithin x1 1 12).bind fun r1 => (if r1 = 0 then (some ((-1), f0, f4, f5, f6, f7, f10, f16, f18, g0, g1, g3, g11, g13)) else ((zf_X_isWithin x2 0 3).bind fun r3 => (if r3 = 0 then (some ((-1), f0, f4, f5, f6, f7, f10, f16, f18, g0, g1, g3, g11, g13)) else ((zf_Tape_take (zi_w (3 * x1)) f0).bind fun r5 => (if r5.1 = 0 then (some ((-1), r5.2, f4, f5, f6, f7, f10, f16, f18, g0, g1, g3, g11, g13)) else ((zf_View_open f4 g0).bind fun r7 => ((zf_Patches_takeParts x1 f5 g1 g2).bind fun r8 => ((zf_X_known_l0 x2 r5.2 r8.1 f8 f9 f11 f12 f13 f14 f15 f17 f19 r7.2 r8.2 g4 g5 g6 g7 g8 g9 g10 g12 zi_fu 0 0 r7.1 f6 f7 f10 f16 f18 g3 g11 g13).bind fun q20 => Sum.elim (fun e21 => (if (zi_rem x2 2) = 1 then (some ((-2), r5.2, e21.2.1, r8.1, e21.2.2.1, e21.2.2.2.1, e21.2.2.2.2.1, e21.2.2.2.2.2.1, e21.2.2.2.2.2.2.1, r7.2, r8.2, e21.2.2.2.2.2.2.2.1, e21.2.2.2.2.2.2.2.2.1, e21.2.2.2.2.2.2.2.2.2)) else (some (e21.1, r5.2, e21.2.1, r8.1, e21.2.2.1, e21.2.2.2.1, e21.2.2.2.2.1, e21.2.2.2.2.2.1, e21.2.2.2.2.2.2.1, r7.2, r8.2, e21.2.2.2.2.2.2.2.1, e21.2.2.2.2.2.2.2.2.1, e21.2.2.2.2.2.2.2.2.2)))) (fun w23 => some w23) q20))))))))
theorem zd136_0 : decode zxm136.2.1 0 = .ok (.iload_n 1, 1) := by decide +kernel
theorem zd136_1 : decode zxm136.2.1 1 = .ok (.iconst 1, 1) := by decide +kernel
theorem zd136_2 : decode zxm136.2.1 2 = .ok (.bipush 12, 2) := by decide +kernel
theorem zd136_4 : decode zxm136.2.1 4 = .ok (.invokestatic 126, 3) := by decide +kernel
theorem zd136_7 : decode zxm136.2.1 7 = .ok (.ifCond .eq 25, 3) := by decide +kernel
theorem zd136_10 : decode zxm136.2.1 10 = .ok (.iload_n 2, 1) := by decide +kernel
theorem zd136_11 : decode zxm136.2.1 11 = .ok (.iconst 0, 1) := by decide +kernel
theorem zd136_12 : decode zxm136.2.1 12 = .ok (.iconst 3, 1) := by decide +kernel
theorem zd136_13 : decode zxm136.2.1 13 = .ok (.invokestatic 126, 3) := by decide +kernel
theorem zd136_16 : decode zxm136.2.1 16 = .ok (.ifCond .eq 16, 3) := by decide +kernel
theorem zd136_19 : decode zxm136.2.1 19 = .ok (.aload_n 0, 1) := by decide +kernel
theorem zd136_20 : decode zxm136.2.1 20 = .ok (.getfield 39, 3) := by decide +kernel
theorem zd136_23 : decode zxm136.2.1 23 = .ok (.iconst 3, 1) := by decide +kernel
theorem zd136_24 : decode zxm136.2.1 24 = .ok (.iload_n 1, 1) := by decide +kernel
theorem zd136_25 : decode zxm136.2.1 25 = .ok (.imul, 1) := by decide +kernel
theorem zd136_26 : decode zxm136.2.1 26 = .ok (.invokevirtual 197, 3) := by decide +kernel
theorem zd136_29 : decode zxm136.2.1 29 = .ok (.ifCond .ne 5, 3) := by decide +kernel
theorem zd136_32 : decode zxm136.2.1 32 = .ok (.iconst (-1), 1) := by decide +kernel
theorem zd136_33 : decode zxm136.2.1 33 = .ok (.ireturn, 1) := by decide +kernel
theorem zd136_34 : decode zxm136.2.1 34 = .ok (.aload_n 0, 1) := by decide +kernel
theorem zd136_35 : decode zxm136.2.1 35 = .ok (.getfield 81, 3) := by decide +kernel
theorem zd136_38 : decode zxm136.2.1 38 = .ok (.aload_n 0, 1) := by decide +kernel
theorem zd136_39 : decode zxm136.2.1 39 = .ok (.getfield 10, 3) := by decide +kernel
theorem zd136_42 : decode zxm136.2.1 42 = .ok (.aload_n 0, 1) := by decide +kernel
theorem zd136_43 : decode zxm136.2.1 43 = .ok (.getfield 46, 3) := by decide +kernel
theorem zd136_46 : decode zxm136.2.1 46 = .ok (.invokevirtual 211, 3) := by decide +kernel
theorem zd136_49 : decode zxm136.2.1 49 = .ok (.aload_n 0, 1) := by decide +kernel
theorem zd136_50 : decode zxm136.2.1 50 = .ok (.getfield 112, 3) := by decide +kernel
theorem zd136_53 : decode zxm136.2.1 53 = .ok (.aload_n 0, 1) := by decide +kernel
theorem zd136_54 : decode zxm136.2.1 54 = .ok (.getfield 39, 3) := by decide +kernel
theorem zd136_57 : decode zxm136.2.1 57 = .ok (.iload_n 1, 1) := by decide +kernel
theorem zd136_58 : decode zxm136.2.1 58 = .ok (.invokevirtual 289, 3) := by decide +kernel
theorem zd136_61 : decode zxm136.2.1 61 = .ok (.iconst 0, 1) := by decide +kernel
theorem zd136_62 : decode zxm136.2.1 62 = .ok (.istore_n 3, 1) := by decide +kernel
theorem zd136_63 : decode zxm136.2.1 63 = .ok (.iconst 0, 1) := by decide +kernel
theorem zd136_64 : decode zxm136.2.1 64 = .ok (.istore 4, 2) := by decide +kernel
theorem zd136_66 : decode zxm136.2.1 66 = .ok (.iload 4, 2) := by decide +kernel
theorem zd136_68 : decode zxm136.2.1 68 = .ok (.sipush 288, 3) := by decide +kernel
theorem zd136_71 : decode zxm136.2.1 71 = .ok (.if_icmp .ge 63, 3) := by decide +kernel
theorem zd136_74 : decode zxm136.2.1 74 = .ok (.aload_n 0, 1) := by decide +kernel
theorem zd136_75 : decode zxm136.2.1 75 = .ok (.getfield 81, 3) := by decide +kernel
theorem zd136_78 : decode zxm136.2.1 78 = .ok (.iload 4, 2) := by decide +kernel
theorem zd136_80 : decode zxm136.2.1 80 = .ok (.invokestatic 293, 3) := by decide +kernel
theorem zd136_83 : decode zxm136.2.1 83 = .ok (.iload 4, 2) := by decide +kernel
theorem zd136_85 : decode zxm136.2.1 85 = .ok (.invokestatic 296, 3) := by decide +kernel
theorem zd136_88 : decode zxm136.2.1 88 = .ok (.invokevirtual 214, 3) := by decide +kernel
theorem zd136_91 : decode zxm136.2.1 91 = .ok (.aload_n 0, 1) := by decide +kernel
theorem zd136_92 : decode zxm136.2.1 92 = .ok (.getfield 112, 3) := by decide +kernel
theorem zd136_95 : decode zxm136.2.1 95 = .ok (.aload_n 0, 1) := by decide +kernel
theorem zd136_96 : decode zxm136.2.1 96 = .ok (.getfield 81, 3) := by decide +kernel
theorem zd136_99 : decode zxm136.2.1 99 = .ok (.iload_n 2, 1) := by decide +kernel
theorem zd136_100 : decode zxm136.2.1 100 = .ok (.iconst 2, 1) := by decide +kernel
theorem zd136_101 : decode zxm136.2.1 101 = .ok (.if_icmp .lt 7, 3) := by decide +kernel
theorem zd136_104 : decode zxm136.2.1 104 = .ok (.iconst 1, 1) := by decide +kernel
theorem zd136_105 : decode zxm136.2.1 105 = .ok (.goto 4, 3) := by decide +kernel
theorem zd136_108 : decode zxm136.2.1 108 = .ok (.iconst 0, 1) := by decide +kernel
theorem zd136_109 : decode zxm136.2.1 109 = .ok (.invokevirtual 299, 3) := by decide +kernel
theorem zd136_112 : decode zxm136.2.1 112 = .ok (.ifCond .eq 16, 3) := by decide +kernel
theorem zd136_115 : decode zxm136.2.1 115 = .ok (.iload_n 2, 1) := by decide +kernel
theorem zd136_116 : decode zxm136.2.1 116 = .ok (.iconst 2, 1) := by decide +kernel
theorem zd136_117 : decode zxm136.2.1 117 = .ok (.irem, 1) := by decide +kernel
theorem zd136_118 : decode zxm136.2.1 118 = .ok (.iconst 1, 1) := by decide +kernel
theorem zd136_119 : decode zxm136.2.1 119 = .ok (.if_icmp .ne 6, 3) := by decide +kernel
theorem zd136_122 : decode zxm136.2.1 122 = .ok (.iload 4, 2) := by decide +kernel
theorem zd136_124 : decode zxm136.2.1 124 = .ok (.ireturn, 1) := by decide +kernel
theorem zd136_125 : decode zxm136.2.1 125 = .ok (.iinc 3 1, 3) := by decide +kernel
theorem zd136_128 : decode zxm136.2.1 128 = .ok (.iinc 4 1, 3) := by decide +kernel
theorem zd136_131 : decode zxm136.2.1 131 = .ok (.goto (-65), 3) := by decide +kernel
theorem zd136_134 : decode zxm136.2.1 134 = .ok (.iload_n 2, 1) := by decide +kernel
theorem zd136_135 : decode zxm136.2.1 135 = .ok (.iconst 2, 1) := by decide +kernel
theorem zd136_136 : decode zxm136.2.1 136 = .ok (.irem, 1) := by decide +kernel
theorem zd136_137 : decode zxm136.2.1 137 = .ok (.iconst 1, 1) := by decide +kernel
theorem zd136_138 : decode zxm136.2.1 138 = .ok (.if_icmp .ne 8, 3) := by decide +kernel
theorem zd136_141 : decode zxm136.2.1 141 = .ok (.bipush (-2), 2) := by decide +kernel
theorem zd136_143 : decode zxm136.2.1 143 = .ok (.goto 4, 3) := by decide +kernel
theorem zd136_146 : decode zxm136.2.1 146 = .ok (.iload_n 3, 1) := by decide +kernel
theorem zd136_147 : decode zxm136.2.1 147 = .ok (.ireturn, 1) := by decide +kernel
theorem zt_X_known {x1 : Int} {x2 : Int} {f0 : Int} {f4 : Int} {f5 : Int} {f6 : Int} {f7 : Int} {f8 : Int} {f9 : Int} {f10 : Int} {f11 : Int} {f12 : Int} {f13 : Int} {f14 : Int} {f15 : Int} {f16 : Int} {f17 : Int} {f18 : Int} {f19 : Int} {g0 : (Int → Int)} {g1 : (Int → Int)} {g2 : (Int → Int)} {g3 : (Int → Int)} {g4 : (Int → Int)} {g5 : (Int → Int)} {g6 : (Int → Int)} {g7 : (Int → Int)} {g8 : (Int → Int)} {g9 : (Int → Int)} {g10 : (Int → Int)} {g11 : (Int → Int)} {g12 : (Int → Int)} {g13 : (Int → Int)} {o : Int × Int × Int × Int × Int × Int × Int × Int × Int × (Int → Int) × (Int → Int) × (Int → Int) × (Int → Int) × (Int → Int)} (h : zf_X_known x1 x2 f0 f4 f5 f6 f7 f8 f9 f10 f11 f12 f13 f14 f15 f16 f17 f18 f19 g0 g1 g2 g3 g4 g5 g6 g7 g8 g9 g10 g11 g12 g13 = some o) : zv_Fn z_TB z_cl z_KX zy_X_known zxm136 (5, 300) [.inr 0, .inl x1, .inl x2] [.inl f0, .inr 4, .inr 1000, .inr 1000, .inl f4, .inl f5, .inl f6, .inl f7, .inl f8, .inl f9, .inl f10, .inl f11, .inl f12, .inl f13, .inl f14, .inl f15, .inl f16, .inl f17, .inl f18, .inl f19] [g0, g1, g2, g3, g4, g5, g6, g7, g8, g9, g10, g11, g12, g13] (some o.1) [.inl o.2.1, .inr 4, .inr 1000, .inr 1000, .inl o.2.2.1, .inl o.2.2.2.1, .inl o.2.2.2.2.1, .inl o.2.2.2.2.2.1, .inl f8, .inl f9, .inl o.2.2.2.2.2.2.1, .inl f11, .inl f12, .inl f13, .inl f14, .inl f15, .inl o.2.2.2.2.2.2.2.1, .inl f17, .inl o.2.2.2.2.2.2.2.2.1, .inl f19] [o.2.2.2.2.2.2.2.2.2.1, o.2.2.2.2.2.2.2.2.2.2.1, g2, o.2.2.2.2.2.2.2.2.2.2.2.1, g4, g5, g6, g7, g8, g9, g10, o.2.2.2.2.2.2.2.2.2.2.2.2.1, g12, o.2.2.2.2.2.2.2.2.2.2.2.2.2] := zv_meth (K := (z_KF0, z_KC0, z_KL0, z_KT0, [], [], [], none)) (FT := z_FT) (MT := z_MT) (n := 3) zxp136 (z_ks0 _ (fun _ h => List.mem_cons_of_mem _ h) _ _ _ _ (fun j r h _ => by cases h)) (fun _ _ => zs_KX_p) zyw_X_known (fun va F G h => by obtain ⟨rfl, _⟩ := h; rfl) (fun va F G h => by obtain ⟨rfl, _⟩ := h; rfl) rfl fun good va F G hB hret hvret hP => by
  obtain ⟨rfl, rfl, rfl⟩ := hP
  have l0 : ∀ (n : Nat) (x2 : Int) (x3 : Int) (x4 : Int) (f0 : Int) (f4 : Int) (f5 : Int) (f6 : Int) (f7 : Int) (f10 : Int) (f16 : Int) (f18 : Int) (g0 : (Int → Int)) (g1 : (Int → Int)) (g3 : (Int → Int)) (g11 : (Int → Int)) (g13 : (Int → Int)) (q : ((Int × Int × Int × Int × Int × Int × Int × (Int → Int) × (Int → Int) × (Int → Int)) ⊕ (Int × Int × Int × Int × Int × Int × Int × Int × Int × (Int → Int) × (Int → Int) × (Int → Int) × (Int → Int) × (Int → Int)))), zf_X_known_l0 x2 f0 f5 f8 f9 f11 f12 f13 f14 f15 f17 f19 g0 g1 g4 g5 g6 g7 g8 g9 g10 g12 n x3 x4 f4 f6 f7 f10 f16 f18 g3 g11 g13 = some q → (Sum.elim (fun e : Int × Int × Int × Int × Int × Int × Int × (Int → Int) × (Int → Int) × (Int → Int) => good 134 [.inr 1000, .inr 1000, .inl x2, .inl e.1, .inr 1000] [] [.inl f0, .inr 4, .inr 3, .inr 4, .inl e.2.1, .inl f5, .inl e.2.2.1, .inl e.2.2.2.1, .inl f8, .inl f9, .inl e.2.2.2.2.1, .inl f11, .inl f12, .inl f13, .inl f14, .inl f15, .inl e.2.2.2.2.2.1, .inl f17, .inl e.2.2.2.2.2.2.1, .inl f19] [g0, g1, g2, e.2.2.2.2.2.2.2.1, g4, g5, g6, g7, g8, g9, g10, e.2.2.2.2.2.2.2.2.1, g12, e.2.2.2.2.2.2.2.2.2]) (fun w : Int × Int × Int × Int × Int × Int × Int × Int × Int × (Int → Int) × (Int → Int) × (Int → Int) × (Int → Int) × (Int → Int) => w = o) q) → good 66 [.inr 0, .inr 1000, .inl x2, .inl x3, .inl x4] [] [.inl f0, .inr 4, .inr 3, .inr 4, .inl f4, .inl f5, .inl f6, .inl f7, .inl f8, .inl f9, .inl f10, .inl f11, .inl f12, .inl f13, .inl f14, .inl f15, .inl f16, .inl f17, .inl f18, .inl f19] [g0, g1, g2, g3, g4, g5, g6, g7, g8, g9, g10, g11, g12, g13] := by
    intro n
    induction n with
    | zero => intro x2 x3 x4 f0 f4 f5 f6 f7 f10 f16 f18 g0 g1 g3 g11 g13 q h; exact absurd (show none = some q from h) (fun h => by cases h)
    | succ n ih =>
      intro x2 x3 x4 f0 f4 f5 f6 f7 f10 f16 f18 g0 g1 g3 g11 g13 q h hK
      replace h : zf_X_known_l0_b x2 f0 f5 f8 f9 f11 f12 f13 f14 f15 f17 f19 g0 g1 g4 g5 g6 g7 g8 g9 g10 g12 (zf_X_known_l0 x2 f0 f5 f8 f9 f11 f12 f13 f14 f15 f17 f19 g0 g1 g4 g5 g6 g7 g8 g9 g10 g12 n) x3 x4 f4 f6 f7 f10 f16 f18 g3 g11 g13 = some q := h
      unfold zf_X_known_l0_b at h
      refine zv_ild hB zd136_66 rfl rfl ?_
      refine zv_con hB zd136_68 rfl ?_
      refine zv_cge hB zd136_71 rfl (fun hc9 => ?_) (fun hc9 => ?_)
      · rw [if_neg (Int.not_lt.mpr hc9)] at h
        have hq := Option.some.inj h
        subst hq
        refine zv_wk hB (L' := [.inr 1000, .inr 1000, .inl x2, .inl x3, .inr 1000]) (F' := [.inl f0, .inr 4, .inr 3, .inr 4, .inl f4, .inl f5, .inl f6, .inl f7, .inl f8, .inl f9, .inl f10, .inl f11, .inl f12, .inl f13, .inl f14, .inl f15, .inl f16, .inl f17, .inl f18, .inl f19]) ⟨fun (h : zv_is (.inr 1000)) => (Nat.lt_irrefl 1000 h).elim, fun (h : zv_is (.inr 1000)) => (Nat.lt_irrefl 1000 h).elim, fun _ => rfl, fun _ => rfl, fun (h : zv_is (.inr 1000)) => (Nat.lt_irrefl 1000 h).elim, trivial⟩ ⟨fun _ => rfl, fun _ => rfl, fun _ => rfl, fun _ => rfl, fun _ => rfl, fun _ => rfl, fun _ => rfl, fun _ => rfl, fun _ => rfl, fun _ => rfl, fun _ => rfl, fun _ => rfl, fun _ => rfl, fun _ => rfl, fun _ => rfl, fun _ => rfl, fun _ => rfl, fun _ => rfl, fun _ => rfl, fun _ => rfl, trivial⟩ ?_
        exact hK
      · rw [if_pos hc9] at h
        refine zv_ald hB zd136_74 rfl rfl rfl ?_
        refine zv_getr hB zd136_75 rfl ?_
        refine zv_ild hB zd136_78 rfl rfl ?_
        obtain ⟨r10, hr10, h⟩ := zi_bind h
        refine zv_cs hB (zv_emq (va2 := [.inl x4]) (F := [.inl f0, .inr 4, .inr 3, .inr 4, .inl f4, .inl f5, .inl f6, .inl f7, .inl f8, .inl f9, .inl f10, .inl f11, .inl f12, .inl f13, .inl f14, .inl f15, .inl f16, .inl f17, .inl f18, .inl f19]) (F' := [.inl f0, .inr 4, .inr 3, .inr 4, .inl f4, .inl f5, .inl f6, .inl f7, .inl f8, .inl f9, .inl f10, .inl f11, .inl f12, .inl f13, .inl f14, .inl f15, .inl f16, .inl f17, .inl f18, .inl f19]) (G := [g0, g1, g2, g3, g4, g5, g6, g7, g8, g9, g10, g11, g12, g13]) (G' := [g0, g1, g2, g3, g4, g5, g6, g7, g8, g9, g10, g11, g12, g13]) (ρ := []) (φ := []) (ψ := []) [none, none, none, none, none, none, none, none, none, none, none, none, none, none, none, none, none, none, none, none] [none, none, none, none, none, none, none, none, none, none, none, none, none, none] zyw_X_columnOf zyw_X_known zye_X_known (by decide +kernel) (zt_X_columnOf hr10) trivial trivial rfl rfl rfl rfl rfl rfl rfl) zd136_80 zxt31 rfl (by decide) (by decide) rfl ?_
        refine zv_ild hB zd136_83 rfl rfl ?_
        obtain ⟨r11, hr11, h⟩ := zi_bind h
        refine zv_cs hB (zv_emq (va2 := [.inl x4]) (F := [.inl f0, .inr 4, .inr 3, .inr 4, .inl f4, .inl f5, .inl f6, .inl f7, .inl f8, .inl f9, .inl f10, .inl f11, .inl f12, .inl f13, .inl f14, .inl f15, .inl f16, .inl f17, .inl f18, .inl f19]) (F' := [.inl f0, .inr 4, .inr 3, .inr 4, .inl f4, .inl f5, .inl f6, .inl f7, .inl f8, .inl f9, .inl f10, .inl f11, .inl f12, .inl f13, .inl f14, .inl f15, .inl f16, .inl f17, .inl f18, .inl f19]) (G := [g0, g1, g2, g3, g4, g5, g6, g7, g8, g9, g10, g11, g12, g13]) (G' := [g0, g1, g2, g3, g4, g5, g6, g7, g8, g9, g10, g11, g12, g13]) (ρ := []) (φ := []) (ψ := []) [none, none, none, none, none, none, none, none, none, none, none, none, none, none, none, none, none, none, none, none] [none, none, none, none, none, none, none, none, none, none, none, none, none, none] zyw_X_rowOf zyw_X_known zye_X_known (by decide +kernel) (zt_X_rowOf hr11) trivial trivial rfl rfl rfl rfl rfl rfl rfl) zd136_85 zxt30 rfl (by decide) (by decide) rfl ?_
        obtain ⟨r12, hr12, h⟩ := zi_bind h
        refine zv_cv hB (zv_emq (va2 := [.inr 2, .inl r10, .inl r11]) (F := [.inl f0, .inr 4, .inr 3, .inr 4, .inl f4, .inl f5, .inl f6, .inl f7, .inl f8, .inl f9, .inl f10, .inl f11, .inl f12, .inl f13, .inl f14, .inl f15, .inl f16, .inl f17, .inl f18, .inl f19]) (F' := [.inl f0, .inr 4, .inr 3, .inr 4, .inl r12.2.2.2.1, .inl f5, .inl r12.1, .inl r12.2.1, .inl f8, .inl f9, .inl r12.2.2.1, .inl f11, .inl f12, .inl f13, .inl f14, .inl f15, .inl r12.2.2.2.2.1, .inl f17, .inl r12.2.2.2.2.2.1, .inl f19]) (G := [g0, g1, g2, g3, g4, g5, g6, g7, g8, g9, g10, g11, g12, g13]) (G' := [g0, g1, g2, r12.2.2.2.2.2.2.1, g4, g5, g6, g7, g8, g9, g10, r12.2.2.2.2.2.2.2, g12, g13]) (ρ := [2, 4, 9, 3, 10, 11, 12, 13, 14, 15, 16, 17, 18]) (φ := [3, 2, 6, 7, 8, 9, 10, 11, 12, 13, 14, 15, 4, 16, 17, 18, 19]) (ψ := [3, 4, 5, 6, 7, 8, 9, 10, 11, 12]) [none, none, some 1, some 0, some 12, none, some 2, some 3, some 4, some 5, some 6, some 7, some 8, some 9, some 10, some 11, some 13, some 14, some 15, some 16] [none, none, none, some 0, some 1, some 2, some 3, some 4, some 5, some 6, some 7, some 8, some 9, none] zyw_View_look zyw_X_known zye_X_known (by decide +kernel) (zt_View_look hr12) ⟨⟨_, rfl, fun _ => rfl⟩, ⟨_, rfl, fun _ => rfl⟩, ⟨_, rfl, fun _ => rfl⟩, ⟨_, rfl, fun _ => rfl⟩, ⟨_, rfl, fun _ => rfl⟩, ⟨_, rfl, fun _ => rfl⟩, ⟨_, rfl, fun _ => rfl⟩, ⟨_, rfl, fun _ => rfl⟩, ⟨_, rfl, fun _ => rfl⟩, ⟨_, rfl, fun _ => rfl⟩, ⟨_, rfl, fun _ => rfl⟩, ⟨_, rfl, fun _ => rfl⟩, ⟨_, rfl, fun _ => rfl⟩, ⟨_, rfl, fun _ => rfl⟩, ⟨_, rfl, fun _ => rfl⟩, ⟨_, rfl, fun _ => rfl⟩, ⟨_, rfl, fun _ => rfl⟩, trivial⟩ ⟨rfl, rfl, rfl, rfl, rfl, rfl, rfl, rfl, rfl, rfl, trivial⟩ rfl rfl rfl rfl rfl rfl rfl) zd136_88 zxt85 rfl (by decide) (by decide) rfl ?_
        refine zv_ald hB zd136_91 rfl rfl rfl ?_
        refine zv_getr hB zd136_92 rfl ?_
        refine zv_ald hB zd136_95 rfl rfl rfl ?_
        refine zv_getr hB zd136_96 rfl ?_
        refine zv_ild hB zd136_99 rfl rfl ?_
        refine zv_con hB zd136_100 rfl ?_
        refine zv_clt hB zd136_101 rfl (fun hc13 => ?_) (fun hc13 => ?_)
        · rw [if_pos hc13] at h
          refine zv_con hB zd136_108 rfl ?_
          obtain ⟨r14, hr14, h⟩ := zi_bind h
          refine zv_cv hB (zv_emq (va2 := [.inr 6, .inr 2, .inl 0]) (F := [.inl f0, .inr 4, .inr 3, .inr 4, .inl r12.2.2.2.1, .inl f5, .inl r12.1, .inl r12.2.1, .inl f8, .inl f9, .inl r12.2.2.1, .inl f11, .inl f12, .inl f13, .inl f14, .inl f15, .inl r12.2.2.2.2.1, .inl f17, .inl r12.2.2.2.2.2.1, .inl f19]) (F' := [.inl f0, .inr 4, .inr 3, .inr 4, .inl r12.2.2.2.1, .inl f5, .inl r12.1, .inl r12.2.1, .inl f8, .inl f9, .inl r12.2.2.1, .inl f11, .inl f12, .inl f13, .inl f14, .inl f15, .inl r12.2.2.2.2.1, .inl f17, .inl r12.2.2.2.2.2.1, .inl f19]) (G := [g0, g1, g2, r12.2.2.2.2.2.2.1, g4, g5, g6, g7, g8, g9, g10, r12.2.2.2.2.2.2.2, g12, g13]) (G' := [g0, g1, g2, r12.2.2.2.2.2.2.1, g4, g5, g6, g7, g8, g9, g10, r12.2.2.2.2.2.2.2, g12, r14.2]) (ρ := [6, 2, 19, 3, 10, 11, 12, 7]) (φ := [10, 6, 7, 8, 5]) (ψ := [13, 4, 5, 6, 1]) [none, none, none, none, none, some 4, some 1, some 2, some 3, none, some 0, none, none, none, none, none, none, none, none, none] [none, some 4, none, none, some 1, some 2, some 3, none, none, none, none, none, none, some 0] zyw_Patches_isKnown zyw_X_known zye_X_known (by decide +kernel) (zt_Patches_isKnown hr14) ⟨⟨_, rfl, fun _ => rfl⟩, ⟨_, rfl, fun _ => rfl⟩, ⟨_, rfl, fun _ => rfl⟩, ⟨_, rfl, fun _ => rfl⟩, ⟨_, rfl, fun _ => rfl⟩, trivial⟩ ⟨rfl, rfl, rfl, rfl, rfl, trivial⟩ rfl rfl rfl rfl rfl rfl rfl) zd136_109 zxt139 rfl (by decide) (by decide) rfl ?_
          refine zv_zeq hB zd136_112 rfl (fun hc15 => ?_) (fun hc15 => ?_)
          · rw [if_pos hc15] at h
            refine zv_iincw hB zd136_128 rfl rfl ?_
            refine zv_goto hB zd136_131 rfl ?_
            exact ih _ _ _ _ _ _ _ _ _ _ _ _ _ _ _ _ q h hK
          · rw [if_neg hc15] at h
            refine zv_ild hB zd136_115 rfl rfl ?_
            refine zv_con hB zd136_116 rfl ?_
            refine zv_remw hB zd136_117 (by decide) ?_
            refine zv_con hB zd136_118 rfl ?_
            refine zv_cne hB zd136_119 rfl (fun hc16 => ?_) (fun hc16 => ?_)
            · rw [if_neg hc16] at h
              refine zv_iincw hB zd136_125 rfl rfl ?_
              refine zv_iincw hB zd136_128 rfl rfl ?_
              refine zv_goto hB zd136_131 rfl ?_
              exact ih _ _ _ _ _ _ _ _ _ _ _ _ _ _ _ _ q h hK
            · rw [if_pos hc16] at h
              refine zv_ild hB zd136_122 rfl rfl ?_
              have hw : (x4, f0, r12.2.2.2.1, f5, r12.1, r12.2.1, r12.2.2.1, r12.2.2.2.2.1, r12.2.2.2.2.2.1, g0, g1, r12.2.2.2.2.2.2.1, r12.2.2.2.2.2.2.2, r14.2) = o := zi_rk (Option.some.inj h) hK
              refine zv_wk hB (L' := [.inr 0, .inr 1000, .inl x2, .inl x3, .inl x4]) (F' := [.inl f0, .inr 4, .inr 1000, .inr 1000, .inl r12.2.2.2.1, .inl f5, .inl r12.1, .inl r12.2.1, .inl f8, .inl f9, .inl r12.2.2.1, .inl f11, .inl f12, .inl f13, .inl f14, .inl f15, .inl r12.2.2.2.2.1, .inl f17, .inl r12.2.2.2.2.2.1, .inl f19]) ⟨fun _ => rfl, fun _ => rfl, fun _ => rfl, fun _ => rfl, fun _ => rfl, trivial⟩ ⟨fun _ => rfl, fun _ => rfl, fun (h : zv_is (.inr 1000)) => (Nat.lt_irrefl 1000 h).elim, fun (h : zv_is (.inr 1000)) => (Nat.lt_irrefl 1000 h).elim, fun _ => rfl, fun _ => rfl, fun _ => rfl, fun _ => rfl, fun _ => rfl, fun _ => rfl, fun _ => rfl, fun _ => rfl, fun _ => rfl, fun _ => rfl, fun _ => rfl, fun _ => rfl, fun _ => rfl, fun _ => rfl, fun _ => rfl, fun _ => rfl, trivial⟩ ?_
              subst hw
              exact hret _ _ _ _ _ zd136_124 (by trivial) ⟨rfl, rfl, rfl⟩
        · rw [if_neg (Int.not_lt.mpr hc13)] at h
          refine zv_con hB zd136_104 rfl ?_
          refine zv_goto hB zd136_105 rfl ?_
          obtain ⟨r17, hr17, h⟩ := zi_bind h
          refine zv_cv hB (zv_emq (va2 := [.inr 6, .inr 2, .inl 1]) (F := [.inl f0, .inr 4, .inr 3, .inr 4, .inl r12.2.2.2.1, .inl f5, .inl r12.1, .inl r12.2.1, .inl f8, .inl f9, .inl r12.2.2.1, .inl f11, .inl f12, .inl f13, .inl f14, .inl f15, .inl r12.2.2.2.2.1, .inl f17, .inl r12.2.2.2.2.2.1, .inl f19]) (F' := [.inl f0, .inr 4, .inr 3, .inr 4, .inl r12.2.2.2.1, .inl f5, .inl r12.1, .inl r12.2.1, .inl f8, .inl f9, .inl r12.2.2.1, .inl f11, .inl f12, .inl f13, .inl f14, .inl f15, .inl r12.2.2.2.2.1, .inl f17, .inl r12.2.2.2.2.2.1, .inl f19]) (G := [g0, g1, g2, r12.2.2.2.2.2.2.1, g4, g5, g6, g7, g8, g9, g10, r12.2.2.2.2.2.2.2, g12, g13]) (G' := [g0, g1, g2, r12.2.2.2.2.2.2.1, g4, g5, g6, g7, g8, g9, g10, r12.2.2.2.2.2.2.2, g12, r17.2]) (ρ := [6, 2, 19, 3, 10, 11, 12, 7]) (φ := [10, 6, 7, 8, 5]) (ψ := [13, 4, 5, 6, 1]) [none, none, none, none, none, some 4, some 1, some 2, some 3, none, some 0, none, none, none, none, none, none, none, none, none] [none, some 4, none, none, some 1, some 2, some 3, none, none, none, none, none, none, some 0] zyw_Patches_isKnown zyw_X_known zye_X_known (by decide +kernel) (zt_Patches_isKnown hr17) ⟨⟨_, rfl, fun _ => rfl⟩, ⟨_, rfl, fun _ => rfl⟩, ⟨_, rfl, fun _ => rfl⟩, ⟨_, rfl, fun _ => rfl⟩, ⟨_, rfl, fun _ => rfl⟩, trivial⟩ ⟨rfl, rfl, rfl, rfl, rfl, trivial⟩ rfl rfl rfl rfl rfl rfl rfl) zd136_109 zxt139 rfl (by decide) (by decide) rfl ?_
          refine zv_zeq hB zd136_112 rfl (fun hc18 => ?_) (fun hc18 => ?_)
          · rw [if_pos hc18] at h
            refine zv_iincw hB zd136_128 rfl rfl ?_
            refine zv_goto hB zd136_131 rfl ?_
            exact ih _ _ _ _ _ _ _ _ _ _ _ _ _ _ _ _ q h hK
          · rw [if_neg hc18] at h
            refine zv_ild hB zd136_115 rfl rfl ?_
            refine zv_con hB zd136_116 rfl ?_
            refine zv_remw hB zd136_117 (by decide) ?_
            refine zv_con hB zd136_118 rfl ?_
            refine zv_cne hB zd136_119 rfl (fun hc19 => ?_) (fun hc19 => ?_)
            · rw [if_neg hc19] at h
              refine zv_iincw hB zd136_125 rfl rfl ?_
              refine zv_iincw hB zd136_128 rfl rfl ?_
              refine zv_goto hB zd136_131 rfl ?_
              exact ih _ _ _ _ _ _ _ _ _ _ _ _ _ _ _ _ q h hK
            · rw [if_pos hc19] at h
              refine zv_ild hB zd136_122 rfl rfl ?_
              have hw : (x4, f0, r12.2.2.2.1, f5, r12.1, r12.2.1, r12.2.2.1, r12.2.2.2.2.1, r12.2.2.2.2.2.1, g0, g1, r12.2.2.2.2.2.2.1, r12.2.2.2.2.2.2.2, r17.2) = o := zi_rk (Option.some.inj h) hK
              refine zv_wk hB (L' := [.inr 0, .inr 1000, .inl x2, .inl x3, .inl x4]) (F' := [.inl f0, .inr 4, .inr 1000, .inr 1000, .inl r12.2.2.2.1, .inl f5, .inl r12.1, .inl r12.2.1, .inl f8, .inl f9, .inl r12.2.2.1, .inl f11, .inl f12, .inl f13, .inl f14, .inl f15, .inl r12.2.2.2.2.1, .inl f17, .inl r12.2.2.2.2.2.1, .inl f19]) ⟨fun _ => rfl, fun _ => rfl, fun _ => rfl, fun _ => rfl, fun _ => rfl, trivial⟩ ⟨fun _ => rfl, fun _ => rfl, fun (h : zv_is (.inr 1000)) => (Nat.lt_irrefl 1000 h).elim, fun (h : zv_is (.inr 1000)) => (Nat.lt_irrefl 1000 h).elim, fun _ => rfl, fun _ => rfl, fun _ => rfl, fun _ => rfl, fun _ => rfl, fun _ => rfl, fun _ => rfl, fun _ => rfl, fun _ => rfl, fun _ => rfl, fun _ => rfl, fun _ => rfl, fun _ => rfl, fun _ => rfl, fun _ => rfl, fun _ => rfl, trivial⟩ ?_
              subst hw
              exact hret _ _ _ _ _ zd136_124 (by trivial) ⟨rfl, rfl, rfl⟩
  unfold zf_X_known at h
  refine zv_ild hB zd136_0 rfl rfl ?_
  refine zv_con hB zd136_1 rfl ?_
  refine zv_con hB zd136_2 rfl ?_
  obtain ⟨r1, hr1, h⟩ := zi_bind h
  refine zv_cs hB (zv_emq (va2 := [.inl x1, .inl 1, .inl 12]) (F := [.inl f0, .inr 4, .inr 1000, .inr 1000, .inl f4, .inl f5, .inl f6, .inl f7, .inl f8, .inl f9, .inl f10, .inl f11, .inl f12, .inl f13, .inl f14, .inl f15, .inl f16, .inl f17, .inl f18, .inl f19]) (F' := [.inl f0, .inr 4, .inr 1000, .inr 1000, .inl f4, .inl f5, .inl f6, .inl f7, .inl f8, .inl f9, .inl f10, .inl f11, .inl f12, .inl f13, .inl f14, .inl f15, .inl f16, .inl f17, .inl f18, .inl f19]) (G := [g0, g1, g2, g3, g4, g5, g6, g7, g8, g9, g10, g11, g12, g13]) (G' := [g0, g1, g2, g3, g4, g5, g6, g7, g8, g9, g10, g11, g12, g13]) (ρ := []) (φ := []) (ψ := []) [none, none, none, none, none, none, none, none, none, none, none, none, none, none, none, none, none, none, none, none] [none, none, none, none, none, none, none, none, none, none, none, none, none, none] zyw_X_isWithin zyw_X_known zye_X_known (by decide +kernel) (zt_X_isWithin hr1) trivial trivial rfl rfl rfl rfl rfl rfl rfl) zd136_4 zxt15 rfl (by decide) (by decide) rfl ?_
  refine zv_zeq hB zd136_7 rfl (fun hc2 => ?_) (fun hc2 => ?_)
  · rw [if_pos hc2] at h
    refine zv_con hB zd136_32 rfl ?_
    have hw := Option.some.inj h
    subst hw
    exact hret _ _ _ _ _ zd136_33 (by trivial) ⟨rfl, rfl, rfl⟩
  · rw [if_neg hc2] at h
    refine zv_ild hB zd136_10 rfl rfl ?_
    refine zv_con hB zd136_11 rfl ?_
    refine zv_con hB zd136_12 rfl ?_
    obtain ⟨r3, hr3, h⟩ := zi_bind h
    refine zv_cs hB (zv_emq (va2 := [.inl x2, .inl 0, .inl 3]) (F := [.inl f0, .inr 4, .inr 1000, .inr 1000, .inl f4, .inl f5, .inl f6, .inl f7, .inl f8, .inl f9, .inl f10, .inl f11, .inl f12, .inl f13, .inl f14, .inl f15, .inl f16, .inl f17, .inl f18, .inl f19]) (F' := [.inl f0, .inr 4, .inr 1000, .inr 1000, .inl f4, .inl f5, .inl f6, .inl f7, .inl f8, .inl f9, .inl f10, .inl f11, .inl f12, .inl f13, .inl f14, .inl f15, .inl f16, .inl f17, .inl f18, .inl f19]) (G := [g0, g1, g2, g3, g4, g5, g6, g7, g8, g9, g10, g11, g12, g13]) (G' := [g0, g1, g2, g3, g4, g5, g6, g7, g8, g9, g10, g11, g12, g13]) (ρ := []) (φ := []) (ψ := []) [none, none, none, none, none, none, none, none, none, none, none, none, none, none, none, none, none, none, none, none] [none, none, none, none, none, none, none, none, none, none, none, none, none, none] zyw_X_isWithin zyw_X_known zye_X_known (by decide +kernel) (zt_X_isWithin hr3) trivial trivial rfl rfl rfl rfl rfl rfl rfl) zd136_13 zxt15 rfl (by decide) (by decide) rfl ?_
    refine zv_zeq hB zd136_16 rfl (fun hc4 => ?_) (fun hc4 => ?_)
    · rw [if_pos hc4] at h
      refine zv_con hB zd136_32 rfl ?_
      have hw := Option.some.inj h
      subst hw
      exact hret _ _ _ _ _ zd136_33 (by trivial) ⟨rfl, rfl, rfl⟩
    · rw [if_neg hc4] at h
      refine zv_ald hB zd136_19 rfl rfl rfl ?_
      refine zv_getr hB zd136_20 rfl ?_
      refine zv_con hB zd136_23 rfl ?_
      refine zv_ild hB zd136_24 rfl rfl ?_
      refine zv_mulw hB zd136_25 ?_
      obtain ⟨r5, hr5, h⟩ := zi_bind h
      refine zv_cv hB (zv_emq (va2 := [.inr 1, .inl (zi_w (3 * x1))]) (F := [.inl f0, .inr 4, .inr 1000, .inr 1000, .inl f4, .inl f5, .inl f6, .inl f7, .inl f8, .inl f9, .inl f10, .inl f11, .inl f12, .inl f13, .inl f14, .inl f15, .inl f16, .inl f17, .inl f18, .inl f19]) (F' := [.inl r5.2, .inr 4, .inr 1000, .inr 1000, .inl f4, .inl f5, .inl f6, .inl f7, .inl f8, .inl f9, .inl f10, .inl f11, .inl f12, .inl f13, .inl f14, .inl f15, .inl f16, .inl f17, .inl f18, .inl f19]) (G := [g0, g1, g2, g3, g4, g5, g6, g7, g8, g9, g10, g11, g12, g13]) (G' := [g0, g1, g2, g3, g4, g5, g6, g7, g8, g9, g10, g11, g12, g13]) (ρ := [1]) (φ := [0]) (ψ := []) [some 0, none, none, none, none, none, none, none, none, none, none, none, none, none, none, none, none, none, none, none] [none, none, none, none, none, none, none, none, none, none, none, none, none, none] zyw_Tape_take zyw_X_known zye_X_known (by decide +kernel) (zt_Tape_take hr5) ⟨⟨_, rfl, fun _ => rfl⟩, trivial⟩ trivial rfl rfl rfl rfl rfl rfl rfl) zd136_26 zxt35 rfl (by decide) (by decide) rfl ?_
      refine zv_zne hB zd136_29 rfl (fun hc6 => ?_) (fun hc6 => ?_)
      · rw [if_neg hc6] at h
        refine zv_ald hB zd136_34 rfl rfl rfl ?_
        refine zv_getr hB zd136_35 rfl ?_
        refine zv_ald hB zd136_38 rfl rfl rfl ?_
        refine zv_getr hB zd136_39 rfl ?_
        refine zv_ald hB zd136_42 rfl rfl rfl ?_
        refine zv_getq hB zd136_43 rfl rfl rfl ?_
        obtain ⟨r7, hr7, h⟩ := zi_bind h
        refine zv_cv hB (zv_emq (va2 := [.inr 2, .inr 3, .inr 4]) (F := [.inl r5.2, .inr 4, .inr 1000, .inr 1000, .inl f4, .inl f5, .inl f6, .inl f7, .inl f8, .inl f9, .inl f10, .inl f11, .inl f12, .inl f13, .inl f14, .inl f15, .inl f16, .inl f17, .inl f18, .inl f19]) (F' := [.inl r5.2, .inr 4, .inr 3, .inr 4, .inl r7.1, .inl f5, .inl f6, .inl f7, .inl f8, .inl f9, .inl f10, .inl f11, .inl f12, .inl f13, .inl f14, .inl f15, .inl f16, .inl f17, .inl f18, .inl f19]) (G := [g0, g1, g2, g3, g4, g5, g6, g7, g8, g9, g10, g11, g12, g13]) (G' := [r7.2, g1, g2, g3, g4, g5, g6, g7, g8, g9, g10, g11, g12, g13]) (ρ := [2, 3, 4, 5]) (φ := [2, 3, 4]) (ψ := [0]) [none, none, some 0, some 1, some 2, none, none, none, none, none, none, none, none, none, none, none, none, none, none, none] [some 0, none, none, none, none, none, none, none, none, none, none, none, none, none] zyw_View_open zyw_X_known zye_X_known (by decide +kernel) (zt_View_open hr7) ⟨⟨_, rfl, fun (h : zv_is (.inr 1000)) => (Nat.lt_irrefl 1000 h).elim⟩, ⟨_, rfl, fun (h : zv_is (.inr 1000)) => (Nat.lt_irrefl 1000 h).elim⟩, ⟨_, rfl, fun _ => rfl⟩, trivial⟩ ⟨rfl, trivial⟩ rfl rfl rfl rfl rfl rfl rfl) zd136_46 zxt84 rfl (by decide) (by decide) rfl ?_
        refine zv_ald hB zd136_49 rfl rfl rfl ?_
        refine zv_getr hB zd136_50 rfl ?_
        refine zv_ald hB zd136_53 rfl rfl rfl ?_
        refine zv_getr hB zd136_54 rfl ?_
        refine zv_ild hB zd136_57 rfl rfl ?_
        obtain ⟨r8, hr8, h⟩ := zi_bind h
        refine zv_cv hB (zv_emq (va2 := [.inr 6, .inr 1, .inl x1]) (F := [.inl r5.2, .inr 4, .inr 3, .inr 4, .inl r7.1, .inl f5, .inl f6, .inl f7, .inl f8, .inl f9, .inl f10, .inl f11, .inl f12, .inl f13, .inl f14, .inl f15, .inl f16, .inl f17, .inl f18, .inl f19]) (F' := [.inl r5.2, .inr 4, .inr 3, .inr 4, .inl r7.1, .inl r8.1, .inl f6, .inl f7, .inl f8, .inl f9, .inl f10, .inl f11, .inl f12, .inl f13, .inl f14, .inl f15, .inl f16, .inl f17, .inl f18, .inl f19]) (G := [r7.2, g1, g2, g3, g4, g5, g6, g7, g8, g9, g10, g11, g12, g13]) (G' := [r7.2, r8.2, g2, g3, g4, g5, g6, g7, g8, g9, g10, g11, g12, g13]) (ρ := [6, 1, 7, 8]) (φ := [5]) (ψ := [1, 2]) [none, none, none, none, none, some 0, none, none, none, none, none, none, none, none, none, none, none, none, none, none] [none, some 0, some 1, none, none, none, none, none, none, none, none, none, none, none] zyw_Patches_takeParts zyw_X_known zye_X_known (by decide +kernel) (zt_Patches_takeParts hr8) ⟨⟨_, rfl, fun _ => rfl⟩, trivial⟩ ⟨rfl, rfl, trivial⟩ rfl rfl rfl rfl rfl rfl rfl) zd136_58 zxt137 rfl (by decide) (by decide) rfl ?_
        refine zv_con hB zd136_61 rfl ?_
        refine zv_ist hB zd136_62 rfl rfl rfl ?_
        refine zv_con hB zd136_63 rfl ?_
        refine zv_ist hB zd136_64 rfl rfl rfl ?_
        obtain ⟨q20, hq20, h⟩ := zi_bind h
        refine zv_wk hB (L' := [.inr 0, .inr 1000, .inl x2, .inl 0, .inl 0]) (F' := [.inl r5.2, .inr 4, .inr 3, .inr 4, .inl r7.1, .inl r8.1, .inl f6, .inl f7, .inl f8, .inl f9, .inl f10, .inl f11, .inl f12, .inl f13, .inl f14, .inl f15, .inl f16, .inl f17, .inl f18, .inl f19]) ⟨fun _ => rfl, fun (h : zv_is (.inr 1000)) => (Nat.lt_irrefl 1000 h).elim, fun _ => rfl, fun _ => rfl, fun _ => rfl, trivial⟩ ⟨fun _ => rfl, fun _ => rfl, fun _ => rfl, fun _ => rfl, fun _ => rfl, fun _ => rfl, fun _ => rfl, fun _ => rfl, fun _ => rfl, fun _ => rfl, fun _ => rfl, fun _ => rfl, fun _ => rfl, fun _ => rfl, fun _ => rfl, fun _ => rfl, fun _ => rfl, fun _ => rfl, fun _ => rfl, fun _ => rfl, trivial⟩ ?_
        refine l0 _ _ _ _ _ _ _ _ _ _ _ _ _ _ _ _ _ q20 hq20 ?_
        rcases q20 with e21 | w23
        · replace h := zi_sl h
          show good 134 [.inr 1000, .inr 1000, .inl x2, .inl e21.1, .inr 1000] [] [.inl r5.2, .inr 4, .inr 3, .inr 4, .inl e21.2.1, .inl r8.1, .inl e21.2.2.1, .inl e21.2.2.2.1, .inl f8, .inl f9, .inl e21.2.2.2.2.1, .inl f11, .inl f12, .inl f13, .inl f14, .inl f15, .inl e21.2.2.2.2.2.1, .inl f17, .inl e21.2.2.2.2.2.2.1, .inl f19] [r7.2, r8.2, g2, e21.2.2.2.2.2.2.2.1, g4, g5, g6, g7, g8, g9, g10, e21.2.2.2.2.2.2.2.2.1, g12, e21.2.2.2.2.2.2.2.2.2]
          refine zv_ild hB zd136_134 rfl rfl ?_
          refine zv_con hB zd136_135 rfl ?_
          refine zv_remw hB zd136_136 (by decide) ?_
          refine zv_con hB zd136_137 rfl ?_
          refine zv_cne hB zd136_138 rfl (fun hc22 => ?_) (fun hc22 => ?_)
          · rw [if_neg hc22] at h
            refine zv_ild hB zd136_146 rfl rfl ?_
            have hw := Option.some.inj h
            refine zv_wk hB (L' := [.inr 1000, .inr 1000, .inl x2, .inl e21.1, .inr 1000]) (F' := [.inl r5.2, .inr 4, .inr 1000, .inr 1000, .inl e21.2.1, .inl r8.1, .inl e21.2.2.1, .inl e21.2.2.2.1, .inl f8, .inl f9, .inl e21.2.2.2.2.1, .inl f11, .inl f12, .inl f13, .inl f14, .inl f15, .inl e21.2.2.2.2.2.1, .inl f17, .inl e21.2.2.2.2.2.2.1, .inl f19]) ⟨fun _ => rfl, fun _ => rfl, fun _ => rfl, fun _ => rfl, fun _ => rfl, trivial⟩ ⟨fun _ => rfl, fun _ => rfl, fun (h : zv_is (.inr 1000)) => (Nat.lt_irrefl 1000 h).elim, fun (h : zv_is (.inr 1000)) => (Nat.lt_irrefl 1000 h).elim, fun _ => rfl, fun _ => rfl, fun _ => rfl, fun _ => rfl, fun _ => rfl, fun _ => rfl, fun _ => rfl, fun _ => rfl, fun _ => rfl, fun _ => rfl, fun _ => rfl, fun _ => rfl, fun _ => rfl, fun _ => rfl, fun _ => rfl, fun _ => rfl, trivial⟩ ?_
            subst hw
            exact hret _ _ _ _ _ zd136_147 (by trivial) ⟨rfl, rfl, rfl⟩
          · rw [if_pos hc22] at h
            refine zv_con hB zd136_141 rfl ?_
            refine zv_goto hB zd136_143 rfl ?_
            have hw := Option.some.inj h
            refine zv_wk hB (L' := [.inr 1000, .inr 1000, .inl x2, .inl e21.1, .inr 1000]) (F' := [.inl r5.2, .inr 4, .inr 1000, .inr 1000, .inl e21.2.1, .inl r8.1, .inl e21.2.2.1, .inl e21.2.2.2.1, .inl f8, .inl f9, .inl e21.2.2.2.2.1, .inl f11, .inl f12, .inl f13, .inl f14, .inl f15, .inl e21.2.2.2.2.2.1, .inl f17, .inl e21.2.2.2.2.2.2.1, .inl f19]) ⟨fun _ => rfl, fun _ => rfl, fun _ => rfl, fun _ => rfl, fun _ => rfl, trivial⟩ ⟨fun _ => rfl, fun _ => rfl, fun (h : zv_is (.inr 1000)) => (Nat.lt_irrefl 1000 h).elim, fun (h : zv_is (.inr 1000)) => (Nat.lt_irrefl 1000 h).elim, fun _ => rfl, fun _ => rfl, fun _ => rfl, fun _ => rfl, fun _ => rfl, fun _ => rfl, fun _ => rfl, fun _ => rfl, fun _ => rfl, fun _ => rfl, fun _ => rfl, fun _ => rfl, fun _ => rfl, fun _ => rfl, fun _ => rfl, fun _ => rfl, trivial⟩ ?_
            subst hw
            exact hret _ _ _ _ _ zd136_147 (by trivial) ⟨rfl, rfl, rfl⟩
        · exact Option.some.inj h
      · rw [if_pos hc6] at h
        refine zv_con hB zd136_32 rfl ?_
        have hw := Option.some.inj h
        subst hw
        exact hret _ _ _ _ _ zd136_33 (by trivial) ⟨rfl, rfl, rfl⟩
end
