/-! Methods as functions, and that they do what these do. -/
/-! Pilot_findFastest (LStarTales$View;LStarTales$Sea;III)Z -/
-- names: 0 Pilot('arg', 0), 1 View('arg', 1), 2 Sea('arg', 2), 3 Sky(1, 7, 0), 4 (0, 24)(0, 9, 4), 5 Law(1, 7, 1), 6 (0, 13)(5, 4, 12), 7 (0, 24)(3, 1, 1), 8 (0, 24)(3, 1, 2), 9 (0, 24)(3, 1, 3), 10 (0, 14)(5, 4, 3), 11 (0, 14)(5, 4, 5), 12 (0, 14)(5, 4, 6), 13 (0, 200)(5, 4, 0), 14 (0, 40)(5, 4, 13), 15 (0, 200)(5, 4, 1), 16 (0, 12)(2, 2, 0), 17 (0, 24)(3, 1, 4), 18 (0, 24)(3, 1, 5), 19 (0, 24)(1, 7, 8)
-- fields: f0 = 1.sky_, f1 = 1.law_, f2 = 3.told_, f3 = 1.x_, f4 = 1.y_, f5 = 3.hour_, f6 = 3.night_, f7 = 3.sightColumns_, f8 = 3.sightRows_, f9 = 3.clouds_, f10 = 5.tellsSeen_, f11 = 1.starsAsked_, f12 = 1.starsHold_, f13 = 5.clauses_, f14 = 5.answer_, f15 = 5.seenByPlace_, f16 = 0.hoursTaken_, f17 = 0.firstStar_; arrays: g0 = 4, g1 = 6, g2 = 7, g3 = 8, g4 = 9, g5 = 10, g6 = 11, g7 = 12, g8 = 13, g9 = 14, g10 = 15, g11 = 16, g12 = 17, g13 = 18, g14 = 19; out: [('ret', None), ('f', 3), ('f', 4), ('f', 5), ('f', 6), ('f', 11), ('f', 12), ('f', 14), ('f', 16), ('f', 17), ('g', 0), ('g', 1), ('g', 2), ('g', 3), ('g', 9), ('g', 14)]
abbrev zy_Pilot_findFastest : zNL := (20, [(0, 9), (1, 7), (2, 2), (3, 1), (5, 4)], [(1, 7, 0, 0), (1, 7, 1, 1), (3, 1, 0, 2), (1, 7, 2, 3), (1, 7, 3, 4), (3, 1, 6, 5), (3, 1, 7, 6), (3, 1, 9, 7), (3, 1, 10, 8), (3, 1, 8, 9), (5, 4, 8, 10), (1, 7, 6, 11), (1, 7, 7, 12), (5, 4, 7, 13), (5, 4, 14, 14), (5, 4, 10, 15), (0, 9, 0, 16), (0, 9, 1, 17)], [(0, 9, 4, 4), (5, 4, 12, 6), (3, 1, 1, 7), (3, 1, 2, 8), (3, 1, 3, 9), (5, 4, 3, 10), (5, 4, 5, 11), (5, 4, 6, 12), (5, 4, 0, 13), (5, 4, 13, 14), (5, 4, 1, 15), (2, 2, 0, 16), (3, 1, 4, 17), (3, 1, 5, 18), (1, 7, 8, 19)], [(4, 0, 24, 0), (6, 0, 13, 1), (7, 0, 24, 2), (8, 0, 24, 3), (9, 0, 24, 4), (10, 0, 14, 5), (11, 0, 14, 6), (12, 0, 14, 7), (13, 0, 200, 8), (14, 0, 40, 9), (15, 0, 200, 10), (16, 0, 12, 11), (17, 0, 24, 12), (18, 0, 24, 13), (19, 0, 24, 14)])
theorem zyw_Pilot_findFastest : zv_wf zy_Pilot_findFastest = true := by decide +kernel
theorem zye_Pilot_findFastest : zv_ek2 zy_Pilot_findFastest = true := by decide +kernel
def zf_Pilot_findFastest_l1_b (x4 : Int) (x7 : Int) (f2 : Int) (f3 : Int) (f4 : Int) (f5 : Int) (f6 : Int) (f11 : Int) (f12 : Int) (f14 : Int) (g0 : (Int → Int)) (g1 : (Int → Int)) (g2 : (Int → Int)) (g3 : (Int → Int)) (g9 : (Int → Int)) (g14 : (Int → Int)) (rec : Int → Option (((Unit) ⊕ (Int × Int × Int × Int × Int × Int × Int × Int × Int × Int × (Int → Int) × (Int → Int) × (Int → Int) × (Int → Int) × (Int → Int) × (Int → Int))))) (x8 : Int) : Option (((Unit) ⊕ (Int × Int × Int × Int × Int × Int × Int × Int × Int × Int × (Int → Int) × (Int → Int) × (Int → Int) × (Int → Int) × (Int → Int) × (Int → Int)))) := if x8 < 24 then ((zf_Sky_hasStar x8 f2).bind fun r6 => (if r6 = 0 then (rec (zi_w (x8 + 1))) else (cond (zi_ix x8 24) (if (g0 x8) = x4 then (some (.inr (1, f3, f4, f5, f6, f11, f12, f14, x7, x8, g0, g1, g2, g3, g9, g14))) else (rec (zi_w (x8 + 1)))) none))) else (some (.inl ()))
def zf_Pilot_findFastest_l1 (x4 : Int) (x7 : Int) (f2 : Int) (f3 : Int) (f4 : Int) (f5 : Int) (f6 : Int) (f11 : Int) (f12 : Int) (f14 : Int) (g0 : (Int → Int)) (g1 : (Int → Int)) (g2 : (Int → Int)) (g3 : (Int → Int)) (g9 : (Int → Int)) (g14 : (Int → Int)) : Nat → Int → Option (((Unit) ⊕ (Int × Int × Int × Int × Int × Int × Int × Int × Int × Int × (Int → Int) × (Int → Int) × (Int → Int) × (Int → Int) × (Int → Int) × (Int → Int))))
  | 0, _ => none
  | n + 1, x8 => zf_Pilot_findFastest_l1_b x4 x7 f2 f3 f4 f5 f6 f11 f12 f14 g0 g1 g2 g3 g9 g14 (zf_Pilot_findFastest_l1 x4 x7 f2 f3 f4 f5 f6 f11 f12 f14 g0 g1 g2 g3 g9 g14 n) x8
def zf_Pilot_findFastest_l0_b (x4 : Int) (x5 : Int) (f2 : Int) (f7 : Int) (f8 : Int) (f9 : Int) (f10 : Int) (f13 : Int) (f15 : Int) (g4 : (Int → Int)) (g5 : (Int → Int)) (g6 : (Int → Int)) (g7 : (Int → Int)) (g8 : (Int → Int)) (g10 : (Int → Int)) (g11 : (Int → Int)) (g12 : (Int → Int)) (g13 : (Int → Int)) (rec : Int → Int → Int → Int → Int → Int → Int → Int → (Int → Int) → (Int → Int) → (Int → Int) → (Int → Int) → (Int → Int) → (Int → Int) → Option (((Int × Int × Int × Int × Int × Int × Int × (Int → Int) × (Int → Int) × (Int → Int) × (Int → Int) × (Int → Int) × (Int → Int)) ⊕ (Int × Int × Int × Int × Int × Int × Int × Int × Int × Int × (Int → Int) × (Int → Int) × (Int → Int) × (Int → Int) × (Int → Int) × (Int → Int))))) (x7 : Int) (f3 : Int) (f4 : Int) (f5 : Int) (f6 : Int) (f11 : Int) (f12 : Int) (f14 : Int) (g0 : (Int → Int)) (g1 : (Int → Int)) (g2 : (Int → Int)) (g3 : (Int → Int)) (g9 : (Int → Int)) (g14 : (Int → Int)) : Option (((Int × Int × Int × Int × Int × Int × Int × (Int → Int) × (Int → Int) × (Int → Int) × (Int → Int) × (Int → Int) × (Int → Int)) ⊕ (Int × Int × Int × Int × Int × Int × Int × Int × Int × Int × (Int → Int) × (Int → Int) × (Int → Int) × (Int → Int) × (Int → Int) × (Int → Int)))) := if x5 < x7 then (some (.inl (f3, f4, f5, f6, f11, f12, f14, g0, g1, g2, g3, g9, g14))) else ((zf_Pilot_stepFirstLegs f2 f3 f4 f5 f6 f7 f8 f9 f10 f11 f12 f13 f14 f15 g0 g1 g2 g3 g4 g5 g6 g7 g8 g9 g10 g11).bind fun r4 => ((zf_Pilot_findFastest_l1 x4 x7 f2 r4.1 r4.2.1 f5 f6 r4.2.2.1 r4.2.2.2.1 r4.2.2.2.2.1 r4.2.2.2.2.2.1 r4.2.2.2.2.2.2.1 g2 g3 r4.2.2.2.2.2.2.2 g14 zi_fu 0).bind fun q10 => Sum.elim (fun e11 => ((zf_Pilot_turnOnward f5 f6 r4.2.2.1 g2 g12 g3 g13 g14).bind fun r12 => (rec (zi_w (x7 + 1)) r4.1 r4.2.1 r12.1 r12.2.1 r12.2.2.1 r4.2.2.2.1 r4.2.2.2.2.1 r4.2.2.2.2.2.1 r4.2.2.2.2.2.2.1 r12.2.2.2.1 r12.2.2.2.2.1 r4.2.2.2.2.2.2.2 r12.2.2.2.2.2))) (fun w13 => some (.inr w13)) q10))
def zf_Pilot_findFastest_l0 (x4 : Int) (x5 : Int) (f2 : Int) (f7 : Int) (f8 : Int) (f9 : Int) (f10 : Int) (f13 : Int) (f15 : Int) (g4 : (Int → Int)) (g5 : (Int → Int)) (g6 : (Int → Int)) (g7 : (Int → Int)) (g8 : (Int → Int)) (g10 : (Int → Int)) (g11 : (Int → Int)) (g12 : (Int → Int)) (g13 : (Int → Int)) : Nat → Int → Int → Int → Int → Int → Int → Int → Int → (Int → Int) → (Int → Int) → (Int → Int) → (Int → Int) → (Int → Int) → (Int → Int) → Option (((Int × Int × Int × Int × Int × Int × Int × (Int → Int) × (Int → Int) × (Int → Int) × (Int → Int) × (Int → Int) × (Int → Int)) ⊕ (Int × Int × Int × Int × Int × Int × Int × Int × Int × Int × (Int → Int) × (Int → Int) × (Int → Int) × (Int → Int) × (Int → Int) × (Int → Int))))
  | 0, _, _, _, _, _, _, _, _, _, _, _, _, _, _ => none
  | n + 1, x7, f3, f4, f5, f6, f11, f12, f14, g0, g1, g2, g3, g9, g14 => zf_Pilot_findFastest_l0_b x4 x5 f2 f7 f8 f9 f10 f13 f15 g4 g5 g6 g7 g8 g10 g11 g12 g13 (zf_Pilot_findFastest_l0 x4 x5 f2 f7 f8 f9 f10 f13 f15 g4 g5 g6 g7 g8 g10 g11 g12 g13 n) x7 f3 f4 f5 f6 f11 f12 f14 g0 g1 g2 g3 g9 g14
def zf_Pilot_findFastest (x3 : Int) (x4 : Int) (x5 : Int) (f2 : Int) (f3 : Int) (f4 : Int) (f5 : Int) (f6 : Int) (f7 : Int) (f8 : Int) (f9 : Int) (f10 : Int) (f11 : Int) (f12 : Int) (f13 : Int) (f14 : Int) (f15 : Int) (f16 : Int) (f17 : Int) (g0 : (Int → Int)) (g1 : (Int → Int)) (g2 : (Int → Int)) (g3 : (Int → Int)) (g4 : (Int → Int)) (g5 : (Int → Int)) (g6 : (Int → Int)) (g7 : (Int → Int)) (g8 : (Int → Int)) (g9 : (Int → Int)) (g10 : (Int → Int)) (g11 : (Int → Int)) (g12 : (Int → Int)) (g13 : (Int → Int)) (g14 : (Int → Int)) : Option (Int × Int × Int × Int × Int × Int × Int × Int × Int × Int × (Int → Int) × (Int → Int) × (Int → Int) × (Int → Int) × (Int → Int) × (Int → Int)) := if x3 = x4 then ((zf_X_lowestOf f2).bind fun r17 => (some (1, f3, f4, f5, f6, f11, f12, f14, 0, r17, g0, g1, g2, g3, g9, g14))) else ((zf_Arrays_fill_24 x3 g0).bind fun r2 => ((zf_Pilot_findFastest_l0 x4 x5 f2 f7 f8 f9 f10 f13 f15 g4 g5 g6 g7 g8 g10 g11 g12 g13 zi_fu 1 f3 f4 f5 f6 f11 f12 f14 r2 g1 g2 g3 g9 g14).bind fun q14 => Sum.elim (fun e15 => (some (0, e15.1, e15.2.1, e15.2.2.1, e15.2.2.2.1, e15.2.2.2.2.1, e15.2.2.2.2.2.1, e15.2.2.2.2.2.2.1, f16, f17, e15.2.2.2.2.2.2.2.1, e15.2.2.2.2.2.2.2.2.1, e15.2.2.2.2.2.2.2.2.2.1, e15.2.2.2.2.2.2.2.2.2.2.1, e15.2.2.2.2.2.2.2.2.2.2.2.1, e15.2.2.2.2.2.2.2.2.2.2.2.2))) (fun w16 => some w16) q14))
theorem zd167_0 : decode zxm167.2.1 0 = .ok (.aload_n 1, 1) := by decide +kernel
theorem zd167_1 : decode zxm167.2.1 1 = .ok (.getfield 75, 3) := by decide +kernel
theorem zd167_4 : decode zxm167.2.1 4 = .ok (.astore 6, 2) := by decide +kernel
theorem zd167_6 : decode zxm167.2.1 6 = .ok (.iload_n 3, 1) := by decide +kernel
theorem zd167_7 : decode zxm167.2.1 7 = .ok (.iload 4, 2) := by decide +kernel
theorem zd167_9 : decode zxm167.2.1 9 = .ok (.if_icmp .ne 22, 3) := by decide +kernel
theorem zd167_12 : decode zxm167.2.1 12 = .ok (.aload_n 0, 1) := by decide +kernel
theorem zd167_13 : decode zxm167.2.1 13 = .ok (.iconst 0, 1) := by decide +kernel
theorem zd167_14 : decode zxm167.2.1 14 = .ok (.putfield 11, 3) := by decide +kernel
theorem zd167_17 : decode zxm167.2.1 17 = .ok (.aload_n 0, 1) := by decide +kernel
theorem zd167_18 : decode zxm167.2.1 18 = .ok (.aload 6, 2) := by decide +kernel
theorem zd167_20 : decode zxm167.2.1 20 = .ok (.getfield 104, 3) := by decide +kernel
theorem zd167_23 : decode zxm167.2.1 23 = .ok (.invokestatic 107, 3) := by decide +kernel
theorem zd167_26 : decode zxm167.2.1 26 = .ok (.putfield 15, 3) := by decide +kernel
theorem zd167_29 : decode zxm167.2.1 29 = .ok (.iconst 1, 1) := by decide +kernel
theorem zd167_30 : decode zxm167.2.1 30 = .ok (.ireturn, 1) := by decide +kernel
theorem zd167_31 : decode zxm167.2.1 31 = .ok (.aload_n 0, 1) := by decide +kernel
theorem zd167_32 : decode zxm167.2.1 32 = .ok (.getfield 24, 3) := by decide +kernel
theorem zd167_35 : decode zxm167.2.1 35 = .ok (.iload_n 3, 1) := by decide +kernel
theorem zd167_36 : decode zxm167.2.1 36 = .ok (.invokestatic 110, 3) := by decide +kernel
theorem zd167_39 : decode zxm167.2.1 39 = .ok (.iconst 1, 1) := by decide +kernel
theorem zd167_40 : decode zxm167.2.1 40 = .ok (.istore 7, 2) := by decide +kernel
theorem zd167_42 : decode zxm167.2.1 42 = .ok (.iload 7, 2) := by decide +kernel
theorem zd167_44 : decode zxm167.2.1 44 = .ok (.iload 5, 2) := by decide +kernel
theorem zd167_46 : decode zxm167.2.1 46 = .ok (.if_icmp .gt 72, 3) := by decide +kernel
theorem zd167_49 : decode zxm167.2.1 49 = .ok (.aload_n 0, 1) := by decide +kernel
theorem zd167_50 : decode zxm167.2.1 50 = .ok (.aload_n 1, 1) := by decide +kernel
theorem zd167_51 : decode zxm167.2.1 51 = .ok (.aload_n 2, 1) := by decide +kernel
theorem zd167_52 : decode zxm167.2.1 52 = .ok (.invokevirtual 116, 3) := by decide +kernel
theorem zd167_55 : decode zxm167.2.1 55 = .ok (.iconst 0, 1) := by decide +kernel
theorem zd167_56 : decode zxm167.2.1 56 = .ok (.istore 8, 2) := by decide +kernel
theorem zd167_58 : decode zxm167.2.1 58 = .ok (.iload 8, 2) := by decide +kernel
theorem zd167_60 : decode zxm167.2.1 60 = .ok (.bipush 24, 2) := by decide +kernel
theorem zd167_62 : decode zxm167.2.1 62 = .ok (.if_icmp .ge 45, 3) := by decide +kernel
theorem zd167_65 : decode zxm167.2.1 65 = .ok (.aload 6, 2) := by decide +kernel
theorem zd167_67 : decode zxm167.2.1 67 = .ok (.iload 8, 2) := by decide +kernel
theorem zd167_69 : decode zxm167.2.1 69 = .ok (.invokevirtual 120, 3) := by decide +kernel
theorem zd167_72 : decode zxm167.2.1 72 = .ok (.ifCond .eq 29, 3) := by decide +kernel
theorem zd167_75 : decode zxm167.2.1 75 = .ok (.aload_n 0, 1) := by decide +kernel
theorem zd167_76 : decode zxm167.2.1 76 = .ok (.getfield 24, 3) := by decide +kernel
theorem zd167_79 : decode zxm167.2.1 79 = .ok (.iload 8, 2) := by decide +kernel
theorem zd167_81 : decode zxm167.2.1 81 = .ok (.iaload, 1) := by decide +kernel
theorem zd167_82 : decode zxm167.2.1 82 = .ok (.iload 4, 2) := by decide +kernel
theorem zd167_84 : decode zxm167.2.1 84 = .ok (.if_icmp .ne 17, 3) := by decide +kernel
theorem zd167_87 : decode zxm167.2.1 87 = .ok (.aload_n 0, 1) := by decide +kernel
theorem zd167_88 : decode zxm167.2.1 88 = .ok (.iload 7, 2) := by decide +kernel
theorem zd167_90 : decode zxm167.2.1 90 = .ok (.putfield 11, 3) := by decide +kernel
theorem zd167_93 : decode zxm167.2.1 93 = .ok (.aload_n 0, 1) := by decide +kernel
theorem zd167_94 : decode zxm167.2.1 94 = .ok (.iload 8, 2) := by decide +kernel
theorem zd167_96 : decode zxm167.2.1 96 = .ok (.putfield 15, 3) := by decide +kernel
theorem zd167_99 : decode zxm167.2.1 99 = .ok (.iconst 1, 1) := by decide +kernel
theorem zd167_100 : decode zxm167.2.1 100 = .ok (.ireturn, 1) := by decide +kernel
theorem zd167_101 : decode zxm167.2.1 101 = .ok (.iinc 8 1, 3) := by decide +kernel
theorem zd167_104 : decode zxm167.2.1 104 = .ok (.goto (-46), 3) := by decide +kernel
theorem zd167_107 : decode zxm167.2.1 107 = .ok (.aload_n 0, 1) := by decide +kernel
theorem zd167_108 : decode zxm167.2.1 108 = .ok (.aload_n 1, 1) := by decide +kernel
theorem zd167_109 : decode zxm167.2.1 109 = .ok (.invokevirtual 123, 3) := by decide +kernel
theorem zd167_112 : decode zxm167.2.1 112 = .ok (.iinc 7 1, 3) := by decide +kernel
theorem zd167_115 : decode zxm167.2.1 115 = .ok (.goto (-73), 3) := by decide +kernel
theorem zd167_118 : decode zxm167.2.1 118 = .ok (.iconst 0, 1) := by decide +kernel
theorem zd167_119 : decode zxm167.2.1 119 = .ok (.ireturn, 1) := by decide +kernel
theorem zt_Pilot_findFastest {x3 : Int} {x4 : Int} {x5 : Int} {f2 : Int} {f3 : Int} {f4 : Int} {f5 : Int} {f6 : Int} {f7 : Int} {f8 : Int} {f9 : Int} {f10 : Int} {f11 : Int} {f12 : Int} {f13 : Int} {f14 : Int} {f15 : Int} {f16 : Int} {f17 : Int} {g0 : (Int → Int)} {g1 : (Int → Int)} {g2 : (Int → Int)} {g3 : (Int → Int)} {g4 : (Int → Int)} {g5 : (Int → Int)} {g6 : (Int → Int)} {g7 : (Int → Int)} {g8 : (Int → Int)} {g9 : (Int → Int)} {g10 : (Int → Int)} {g11 : (Int → Int)} {g12 : (Int → Int)} {g13 : (Int → Int)} {g14 : (Int → Int)} {o : Int × Int × Int × Int × Int × Int × Int × Int × Int × Int × (Int → Int) × (Int → Int) × (Int → Int) × (Int → Int) × (Int → Int) × (Int → Int)} (h : zf_Pilot_findFastest x3 x4 x5 f2 f3 f4 f5 f6 f7 f8 f9 f10 f11 f12 f13 f14 f15 f16 f17 g0 g1 g2 g3 g4 g5 g6 g7 g8 g9 g10 g11 g12 g13 g14 = some o) : zv_Fn z_TB z_cl z_KX zy_Pilot_findFastest zxm167 (6, 360) [.inr 0, .inr 1, .inr 2, .inl x3, .inl x4, .inl x5] [.inr 3, .inr 5, .inl f2, .inl f3, .inl f4, .inl f5, .inl f6, .inl f7, .inl f8, .inl f9, .inl f10, .inl f11, .inl f12, .inl f13, .inl f14, .inl f15, .inl f16, .inl f17] [g0, g1, g2, g3, g4, g5, g6, g7, g8, g9, g10, g11, g12, g13, g14] (some o.1) [.inr 3, .inr 5, .inl f2, .inl o.2.1, .inl o.2.2.1, .inl o.2.2.2.1, .inl o.2.2.2.2.1, .inl f7, .inl f8, .inl f9, .inl f10, .inl o.2.2.2.2.2.1, .inl o.2.2.2.2.2.2.1, .inl f13, .inl o.2.2.2.2.2.2.2.1, .inl f15, .inl o.2.2.2.2.2.2.2.2.1, .inl o.2.2.2.2.2.2.2.2.2.1] [o.2.2.2.2.2.2.2.2.2.2.1, o.2.2.2.2.2.2.2.2.2.2.2.1, o.2.2.2.2.2.2.2.2.2.2.2.2.1, o.2.2.2.2.2.2.2.2.2.2.2.2.2.1, g4, g5, g6, g7, g8, o.2.2.2.2.2.2.2.2.2.2.2.2.2.2.1, g10, g11, g12, g13, o.2.2.2.2.2.2.2.2.2.2.2.2.2.2.2] := zv_meth (K := (z_KF6, z_KC6, z_KL6, z_KT6, [], [], [], none)) (FT := z_FT) (MT := z_MT) (n := 6) zxp167 (z_ks6 _ (fun _ h => List.mem_cons_of_mem _ h) _ _ _ _ (fun j r h _ => by cases h)) (fun _ _ => zs_KX_p) zyw_Pilot_findFastest (fun va F G h => by obtain ⟨rfl, _⟩ := h; rfl) (fun va F G h => by obtain ⟨rfl, _⟩ := h; rfl) rfl fun good va F G hB hret hvret hP => by
  obtain ⟨rfl, rfl, rfl⟩ := hP
  have l1 : ∀ (n : Nat) (x4 : Int) (x5 : Int) (x7 : Int) (x8 : Int) (f3 : Int) (f4 : Int) (f5 : Int) (f6 : Int) (f11 : Int) (f12 : Int) (f14 : Int) (f16 : Int) (f17 : Int) (g0 : (Int → Int)) (g1 : (Int → Int)) (g2 : (Int → Int)) (g3 : (Int → Int)) (g9 : (Int → Int)) (g14 : (Int → Int)) (q : ((Unit) ⊕ (Int × Int × Int × Int × Int × Int × Int × Int × Int × Int × (Int → Int) × (Int → Int) × (Int → Int) × (Int → Int) × (Int → Int) × (Int → Int)))), zf_Pilot_findFastest_l1 x4 x7 f2 f3 f4 f5 f6 f11 f12 f14 g0 g1 g2 g3 g9 g14 n x8 = some q → (Sum.elim (fun e : Unit => good 107 [.inr 0, .inr 1, .inr 2, .inr 1000, .inl x4, .inl x5, .inr 3, .inl x7, .inr 1000] [] [.inr 3, .inr 5, .inl f2, .inl f3, .inl f4, .inl f5, .inl f6, .inl f7, .inl f8, .inl f9, .inl f10, .inl f11, .inl f12, .inl f13, .inl f14, .inl f15, .inl f16, .inl f17] [g0, g1, g2, g3, g4, g5, g6, g7, g8, g9, g10, g11, g12, g13, g14]) (fun w : Int × Int × Int × Int × Int × Int × Int × Int × Int × Int × (Int → Int) × (Int → Int) × (Int → Int) × (Int → Int) × (Int → Int) × (Int → Int) => w = o) q) → good 58 [.inr 0, .inr 1, .inr 2, .inr 1000, .inl x4, .inl x5, .inr 3, .inl x7, .inl x8] [] [.inr 3, .inr 5, .inl f2, .inl f3, .inl f4, .inl f5, .inl f6, .inl f7, .inl f8, .inl f9, .inl f10, .inl f11, .inl f12, .inl f13, .inl f14, .inl f15, .inl f16, .inl f17] [g0, g1, g2, g3, g4, g5, g6, g7, g8, g9, g10, g11, g12, g13, g14] := by
    intro n
    induction n with
    | zero => intro x4 x5 x7 x8 f3 f4 f5 f6 f11 f12 f14 f16 f17 g0 g1 g2 g3 g9 g14 q h; exact absurd (show none = some q from h) (fun h => by cases h)
    | succ n ih =>
      intro x4 x5 x7 x8 f3 f4 f5 f6 f11 f12 f14 f16 f17 g0 g1 g2 g3 g9 g14 q h hK
      replace h : zf_Pilot_findFastest_l1_b x4 x7 f2 f3 f4 f5 f6 f11 f12 f14 g0 g1 g2 g3 g9 g14 (zf_Pilot_findFastest_l1 x4 x7 f2 f3 f4 f5 f6 f11 f12 f14 g0 g1 g2 g3 g9 g14 n) x8 = some q := h
      unfold zf_Pilot_findFastest_l1_b at h
      refine zv_ild hB zd167_58 rfl rfl ?_
      refine zv_con hB zd167_60 rfl ?_
      refine zv_cge hB zd167_62 rfl (fun hc5 => ?_) (fun hc5 => ?_)
      · rw [if_neg (Int.not_lt.mpr hc5)] at h
        have hq := Option.some.inj h
        subst hq
        refine zv_wk hB (L' := [.inr 0, .inr 1, .inr 2, .inr 1000, .inl x4, .inl x5, .inr 3, .inl x7, .inr 1000]) (F' := [.inr 3, .inr 5, .inl f2, .inl f3, .inl f4, .inl f5, .inl f6, .inl f7, .inl f8, .inl f9, .inl f10, .inl f11, .inl f12, .inl f13, .inl f14, .inl f15, .inl f16, .inl f17]) ⟨fun _ => rfl, fun _ => rfl, fun _ => rfl, fun (h : zv_is (.inr 1000)) => (Nat.lt_irrefl 1000 h).elim, fun _ => rfl, fun _ => rfl, fun _ => rfl, fun _ => rfl, fun (h : zv_is (.inr 1000)) => (Nat.lt_irrefl 1000 h).elim, trivial⟩ ⟨fun _ => rfl, fun _ => rfl, fun _ => rfl, fun _ => rfl, fun _ => rfl, fun _ => rfl, fun _ => rfl, fun _ => rfl, fun _ => rfl, fun _ => rfl, fun _ => rfl, fun _ => rfl, fun _ => rfl, fun _ => rfl, fun _ => rfl, fun _ => rfl, fun _ => rfl, fun _ => rfl, trivial⟩ ?_
        exact hK
      · rw [if_pos hc5] at h
        refine zv_ald hB zd167_65 rfl rfl rfl ?_
        refine zv_ild hB zd167_67 rfl rfl ?_
        obtain ⟨r6, hr6, h⟩ := zi_bind h
        refine zv_cv hB (zv_emq (va2 := [.inr 3, .inl x8]) (F := [.inr 3, .inr 5, .inl f2, .inl f3, .inl f4, .inl f5, .inl f6, .inl f7, .inl f8, .inl f9, .inl f10, .inl f11, .inl f12, .inl f13, .inl f14, .inl f15, .inl f16, .inl f17]) (F' := [.inr 3, .inr 5, .inl f2, .inl f3, .inl f4, .inl f5, .inl f6, .inl f7, .inl f8, .inl f9, .inl f10, .inl f11, .inl f12, .inl f13, .inl f14, .inl f15, .inl f16, .inl f17]) (G := [g0, g1, g2, g3, g4, g5, g6, g7, g8, g9, g10, g11, g12, g13, g14]) (G' := [g0, g1, g2, g3, g4, g5, g6, g7, g8, g9, g10, g11, g12, g13, g14]) (ρ := [3]) (φ := [2]) (ψ := []) [none, none, some 0, none, none, none, none, none, none, none, none, none, none, none, none, none, none, none] [none, none, none, none, none, none, none, none, none, none, none, none, none, none, none] zyw_Sky_hasStar zyw_Pilot_findFastest zye_Pilot_findFastest (by decide +kernel) (zt_Sky_hasStar hr6) ⟨⟨_, rfl, fun _ => rfl⟩, trivial⟩ trivial rfl rfl rfl rfl rfl rfl rfl) zd167_69 zxt18 rfl (by decide) (by decide) rfl ?_
        refine zv_zeq hB zd167_72 rfl (fun hc7 => ?_) (fun hc7 => ?_)
        · rw [if_pos hc7] at h
          refine zv_iincw hB zd167_101 rfl rfl ?_
          refine zv_goto hB zd167_104 rfl ?_
          exact ih _ _ _ _ _ _ _ _ _ _ _ _ _ _ _ _ _ _ _ q h hK
        · rw [if_neg hc7] at h
          refine zv_ald hB zd167_75 rfl rfl rfl ?_
          refine zv_getr hB zd167_76 rfl ?_
          refine zv_ild hB zd167_79 rfl rfl ?_
          obtain ⟨c8, h⟩ := zi_if h
          refine zv_iald hB zd167_81 rfl rfl (zi_ix_ok c8).1 (zi_ix_ok c8).2 (fun _ _ => ?_)
          refine zv_ild hB zd167_82 rfl rfl ?_
          refine zv_cne hB zd167_84 rfl (fun hc9 => ?_) (fun hc9 => ?_)
          · rw [if_neg hc9] at h
            refine zv_iincw hB zd167_101 rfl rfl ?_
            refine zv_goto hB zd167_104 rfl ?_
            exact ih _ _ _ _ _ _ _ _ _ _ _ _ _ _ _ _ _ _ _ q h hK
          · rw [if_pos hc9] at h
            refine zv_ald hB zd167_87 rfl rfl rfl ?_
            refine zv_ild hB zd167_88 rfl rfl ?_
            refine zv_putf hB zd167_90 rfl rfl (fun h => by cases h) rfl ?_
            refine zv_ald hB zd167_93 rfl rfl rfl ?_
            refine zv_ild hB zd167_94 rfl rfl ?_
            refine zv_putf hB zd167_96 rfl rfl (fun h => by cases h) rfl ?_
            refine zv_con hB zd167_99 rfl ?_
            have hw : (1, f3, f4, f5, f6, f11, f12, f14, x7, x8, g0, g1, g2, g3, g9, g14) = o := zi_rk (Option.some.inj h) hK
            subst hw
            exact hret _ _ _ _ _ zd167_100 (by constructor <;> decide) ⟨rfl, rfl, rfl⟩
  have l0 : ∀ (n : Nat) (x4 : Int) (x5 : Int) (x7 : Int) (f3 : Int) (f4 : Int) (f5 : Int) (f6 : Int) (f11 : Int) (f12 : Int) (f14 : Int) (f16 : Int) (f17 : Int) (g0 : (Int → Int)) (g1 : (Int → Int)) (g2 : (Int → Int)) (g3 : (Int → Int)) (g9 : (Int → Int)) (g14 : (Int → Int)) (q : ((Int × Int × Int × Int × Int × Int × Int × (Int → Int) × (Int → Int) × (Int → Int) × (Int → Int) × (Int → Int) × (Int → Int)) ⊕ (Int × Int × Int × Int × Int × Int × Int × Int × Int × Int × (Int → Int) × (Int → Int) × (Int → Int) × (Int → Int) × (Int → Int) × (Int → Int)))), zf_Pilot_findFastest_l0 x4 x5 f2 f7 f8 f9 f10 f13 f15 g4 g5 g6 g7 g8 g10 g11 g12 g13 n x7 f3 f4 f5 f6 f11 f12 f14 g0 g1 g2 g3 g9 g14 = some q → (Sum.elim (fun e : Int × Int × Int × Int × Int × Int × Int × (Int → Int) × (Int → Int) × (Int → Int) × (Int → Int) × (Int → Int) × (Int → Int) => good 118 [.inr 1000, .inr 1000, .inr 1000, .inr 1000, .inr 1000, .inr 1000, .inr 1000, .inr 1000, .inr 1000] [] [.inr 3, .inr 5, .inl f2, .inl e.1, .inl e.2.1, .inl e.2.2.1, .inl e.2.2.2.1, .inl f7, .inl f8, .inl f9, .inl f10, .inl e.2.2.2.2.1, .inl e.2.2.2.2.2.1, .inl f13, .inl e.2.2.2.2.2.2.1, .inl f15, .inl f16, .inl f17] [e.2.2.2.2.2.2.2.1, e.2.2.2.2.2.2.2.2.1, e.2.2.2.2.2.2.2.2.2.1, e.2.2.2.2.2.2.2.2.2.2.1, g4, g5, g6, g7, g8, e.2.2.2.2.2.2.2.2.2.2.2.1, g10, g11, g12, g13, e.2.2.2.2.2.2.2.2.2.2.2.2]) (fun w : Int × Int × Int × Int × Int × Int × Int × Int × Int × Int × (Int → Int) × (Int → Int) × (Int → Int) × (Int → Int) × (Int → Int) × (Int → Int) => w = o) q) → good 42 [.inr 0, .inr 1, .inr 2, .inr 1000, .inl x4, .inl x5, .inr 3, .inl x7, .inr 1000] [] [.inr 3, .inr 5, .inl f2, .inl f3, .inl f4, .inl f5, .inl f6, .inl f7, .inl f8, .inl f9, .inl f10, .inl f11, .inl f12, .inl f13, .inl f14, .inl f15, .inl f16, .inl f17] [g0, g1, g2, g3, g4, g5, g6, g7, g8, g9, g10, g11, g12, g13, g14] := by
    intro n
    induction n with
    | zero => intro x4 x5 x7 f3 f4 f5 f6 f11 f12 f14 f16 f17 g0 g1 g2 g3 g9 g14 q h; exact absurd (show none = some q from h) (fun h => by cases h)
    | succ n ih =>
      intro x4 x5 x7 f3 f4 f5 f6 f11 f12 f14 f16 f17 g0 g1 g2 g3 g9 g14 q h hK
      replace h : zf_Pilot_findFastest_l0_b x4 x5 f2 f7 f8 f9 f10 f13 f15 g4 g5 g6 g7 g8 g10 g11 g12 g13 (zf_Pilot_findFastest_l0 x4 x5 f2 f7 f8 f9 f10 f13 f15 g4 g5 g6 g7 g8 g10 g11 g12 g13 n) x7 f3 f4 f5 f6 f11 f12 f14 g0 g1 g2 g3 g9 g14 = some q := h
      unfold zf_Pilot_findFastest_l0_b at h
      refine zv_ild hB zd167_42 rfl rfl ?_
      refine zv_ild hB zd167_44 rfl rfl ?_
      refine zv_cgt hB zd167_46 rfl (fun hc3 => ?_) (fun hc3 => ?_)
      · rw [if_pos hc3] at h
        have hq := Option.some.inj h
        subst hq
        refine zv_wk hB (L' := [.inr 1000, .inr 1000, .inr 1000, .inr 1000, .inr 1000, .inr 1000, .inr 1000, .inr 1000, .inr 1000]) (F' := [.inr 3, .inr 5, .inl f2, .inl f3, .inl f4, .inl f5, .inl f6, .inl f7, .inl f8, .inl f9, .inl f10, .inl f11, .inl f12, .inl f13, .inl f14, .inl f15, .inl f16, .inl f17]) ⟨fun (h : zv_is (.inr 1000)) => (Nat.lt_irrefl 1000 h).elim, fun (h : zv_is (.inr 1000)) => (Nat.lt_irrefl 1000 h).elim, fun (h : zv_is (.inr 1000)) => (Nat.lt_irrefl 1000 h).elim, fun (h : zv_is (.inr 1000)) => (Nat.lt_irrefl 1000 h).elim, fun (h : zv_is (.inr 1000)) => (Nat.lt_irrefl 1000 h).elim, fun (h : zv_is (.inr 1000)) => (Nat.lt_irrefl 1000 h).elim, fun (h : zv_is (.inr 1000)) => (Nat.lt_irrefl 1000 h).elim, fun (h : zv_is (.inr 1000)) => (Nat.lt_irrefl 1000 h).elim, fun (h : zv_is (.inr 1000)) => (Nat.lt_irrefl 1000 h).elim, trivial⟩ ⟨fun _ => rfl, fun _ => rfl, fun _ => rfl, fun _ => rfl, fun _ => rfl, fun _ => rfl, fun _ => rfl, fun _ => rfl, fun _ => rfl, fun _ => rfl, fun _ => rfl, fun _ => rfl, fun _ => rfl, fun _ => rfl, fun _ => rfl, fun _ => rfl, fun _ => rfl, fun _ => rfl, trivial⟩ ?_
        exact hK
      · rw [if_neg (Int.not_lt.mpr hc3)] at h
        refine zv_ald hB zd167_49 rfl rfl rfl ?_
        refine zv_ald hB zd167_50 rfl rfl rfl ?_
        refine zv_ald hB zd167_51 rfl rfl rfl ?_
        obtain ⟨r4, hr4, h⟩ := zi_bind h
        refine zv_cv hB (zv_emq (va2 := [.inr 0, .inr 1, .inr 2]) (F := [.inr 3, .inr 5, .inl f2, .inl f3, .inl f4, .inl f5, .inl f6, .inl f7, .inl f8, .inl f9, .inl f10, .inl f11, .inl f12, .inl f13, .inl f14, .inl f15, .inl f16, .inl f17]) (F' := [.inr 3, .inr 5, .inl f2, .inl r4.1, .inl r4.2.1, .inl f5, .inl f6, .inl f7, .inl f8, .inl f9, .inl f10, .inl r4.2.2.1, .inl r4.2.2.2.1, .inl f13, .inl r4.2.2.2.2.1, .inl f15, .inl f16, .inl f17]) (G := [g0, g1, g2, g3, g4, g5, g6, g7, g8, g9, g10, g11, g12, g13, g14]) (G' := [r4.2.2.2.2.2.1, r4.2.2.2.2.2.2.1, g2, g3, g4, g5, g6, g7, g8, r4.2.2.2.2.2.2.2, g10, g11, g12, g13, g14]) (ρ := [0, 1, 2, 3, 4, 5, 6, 7, 8, 9, 10, 11, 12, 13, 14, 15, 16]) (φ := [0, 2, 1, 3, 4, 5, 6, 7, 8, 9, 10, 11, 12, 13, 14, 15]) (ψ := [0, 1, 2, 3, 4, 5, 6, 7, 8, 9, 10, 11]) [some 0, some 2, some 1, some 3, some 4, some 5, some 6, some 7, some 8, some 9, some 10, some 11, some 12, some 13, some 14, some 15, none, none] [some 0, some 1, some 2, some 3, some 4, some 5, some 6, some 7, some 8, some 9, some 10, some 11, none, none, none] zyw_Pilot_stepFirstLegs zyw_Pilot_findFastest zye_Pilot_findFastest (by decide +kernel) (zt_Pilot_stepFirstLegs hr4) ⟨⟨_, rfl, fun _ => rfl⟩, ⟨_, rfl, fun _ => rfl⟩, ⟨_, rfl, fun _ => rfl⟩, ⟨_, rfl, fun _ => rfl⟩, ⟨_, rfl, fun _ => rfl⟩, ⟨_, rfl, fun _ => rfl⟩, ⟨_, rfl, fun _ => rfl⟩, ⟨_, rfl, fun _ => rfl⟩, ⟨_, rfl, fun _ => rfl⟩, ⟨_, rfl, fun _ => rfl⟩, ⟨_, rfl, fun _ => rfl⟩, ⟨_, rfl, fun _ => rfl⟩, ⟨_, rfl, fun _ => rfl⟩, ⟨_, rfl, fun _ => rfl⟩, ⟨_, rfl, fun _ => rfl⟩, ⟨_, rfl, fun _ => rfl⟩, trivial⟩ ⟨rfl, rfl, rfl, rfl, rfl, rfl, rfl, rfl, rfl, rfl, rfl, rfl, trivial⟩ rfl rfl rfl rfl rfl rfl rfl) zd167_52 zxt168 rfl (by decide) (by decide) rfl ?_
        refine zv_con hB zd167_55 rfl ?_
        refine zv_ist hB zd167_56 rfl rfl rfl ?_
        obtain ⟨q10, hq10, h⟩ := zi_bind h
        refine l1 _ _ _ _ _ _ _ _ _ _ _ _ _ _ _ _ _ _ _ _ q10 hq10 ?_
        rcases q10 with e11 | w13
        · replace h := zi_sl h
          show good 107 [.inr 0, .inr 1, .inr 2, .inr 1000, .inl x4, .inl x5, .inr 3, .inl x7, .inr 1000] [] [.inr 3, .inr 5, .inl f2, .inl r4.1, .inl r4.2.1, .inl f5, .inl f6, .inl f7, .inl f8, .inl f9, .inl f10, .inl r4.2.2.1, .inl r4.2.2.2.1, .inl f13, .inl r4.2.2.2.2.1, .inl f15, .inl f16, .inl f17] [r4.2.2.2.2.2.1, r4.2.2.2.2.2.2.1, g2, g3, g4, g5, g6, g7, g8, r4.2.2.2.2.2.2.2, g10, g11, g12, g13, g14]
          refine zv_ald hB zd167_107 rfl rfl rfl ?_
          refine zv_ald hB zd167_108 rfl rfl rfl ?_
          obtain ⟨r12, hr12, h⟩ := zi_bind h
          refine zv_cv hB (zv_emq (va2 := [.inr 0, .inr 1]) (F := [.inr 3, .inr 5, .inl f2, .inl r4.1, .inl r4.2.1, .inl f5, .inl f6, .inl f7, .inl f8, .inl f9, .inl f10, .inl r4.2.2.1, .inl r4.2.2.2.1, .inl f13, .inl r4.2.2.2.2.1, .inl f15, .inl f16, .inl f17]) (F' := [.inr 3, .inr 5, .inl f2, .inl r4.1, .inl r4.2.1, .inl r12.1, .inl r12.2.1, .inl f7, .inl f8, .inl f9, .inl f10, .inl r12.2.2.1, .inl r4.2.2.2.1, .inl f13, .inl r4.2.2.2.2.1, .inl f15, .inl f16, .inl f17]) (G := [r4.2.2.2.2.2.1, r4.2.2.2.2.2.2.1, g2, g3, g4, g5, g6, g7, g8, r4.2.2.2.2.2.2.2, g10, g11, g12, g13, g14]) (G' := [r4.2.2.2.2.2.1, r4.2.2.2.2.2.2.1, r12.2.2.2.1, r12.2.2.2.2.1, g4, g5, g6, g7, g8, r4.2.2.2.2.2.2.2, g10, g11, g12, g13, r12.2.2.2.2.2]) (ρ := [0, 1, 3, 7, 17, 8, 18, 5, 19]) (φ := [0, 5, 6, 1, 11]) (ψ := [2, 12, 3, 13, 14]) [some 0, some 3, none, none, none, some 1, some 2, none, none, none, none, some 4, none, none, none, none, none, none] [none, none, some 0, some 2, none, none, none, none, none, none, none, none, some 1, some 3, some 4] zyw_Pilot_turnOnward zyw_Pilot_findFastest zye_Pilot_findFastest (by decide +kernel) (zt_Pilot_turnOnward hr12) ⟨⟨_, rfl, fun _ => rfl⟩, ⟨_, rfl, fun _ => rfl⟩, ⟨_, rfl, fun _ => rfl⟩, ⟨_, rfl, fun _ => rfl⟩, ⟨_, rfl, fun _ => rfl⟩, trivial⟩ ⟨rfl, rfl, rfl, rfl, rfl, trivial⟩ rfl rfl rfl rfl rfl rfl rfl) zd167_109 zxt169 rfl (by decide) (by decide) rfl ?_
          refine zv_iincw hB zd167_112 rfl rfl ?_
          refine zv_goto hB zd167_115 rfl ?_
          exact ih _ _ _ _ _ _ _ _ _ _ _ _ _ _ _ _ _ _ q h hK
        · exact zi_rk (Option.some.inj h) hK
  unfold zf_Pilot_findFastest at h
  refine zv_ald hB zd167_0 rfl rfl rfl ?_
  refine zv_getq hB zd167_1 rfl rfl rfl ?_
  refine zv_ast hB zd167_4 rfl rfl rfl rfl ?_
  refine zv_ild hB zd167_6 rfl rfl ?_
  refine zv_ild hB zd167_7 rfl rfl ?_
  refine zv_cne hB zd167_9 rfl (fun hc1 => ?_) (fun hc1 => ?_)
  · rw [if_neg hc1] at h
    refine zv_ald hB zd167_31 rfl rfl rfl ?_
    refine zv_getr hB zd167_32 rfl ?_
    refine zv_ild hB zd167_35 rfl rfl ?_
    obtain ⟨r2, hr2, h⟩ := zi_bind h
    refine zv_cs hB (zv_emq (va2 := [.inr 4, .inl x3]) (F := [.inr 3, .inr 5, .inl f2, .inl f3, .inl f4, .inl f5, .inl f6, .inl f7, .inl f8, .inl f9, .inl f10, .inl f11, .inl f12, .inl f13, .inl f14, .inl f15, .inl f16, .inl f17]) (F' := [.inr 3, .inr 5, .inl f2, .inl f3, .inl f4, .inl f5, .inl f6, .inl f7, .inl f8, .inl f9, .inl f10, .inl f11, .inl f12, .inl f13, .inl f14, .inl f15, .inl f16, .inl f17]) (G := [g0, g1, g2, g3, g4, g5, g6, g7, g8, g9, g10, g11, g12, g13, g14]) (G' := [r2, g1, g2, g3, g4, g5, g6, g7, g8, g9, g10, g11, g12, g13, g14]) (ρ := [4]) (φ := []) (ψ := [0]) [none, none, none, none, none, none, none, none, none, none, none, none, none, none, none, none, none, none] [some 0, none, none, none, none, none, none, none, none, none, none, none, none, none, none] zyw_Arrays_fill_24 zyw_Pilot_findFastest zye_Pilot_findFastest (by decide +kernel) (zt_Arrays_fill_24 hr2) trivial ⟨rfl, trivial⟩ rfl rfl rfl rfl rfl rfl rfl) zd167_36 zxt78 rfl (by decide) (by decide) rfl ?_
    refine zv_con hB zd167_39 rfl ?_
    refine zv_ist hB zd167_40 rfl rfl rfl ?_
    obtain ⟨q14, hq14, h⟩ := zi_bind h
    refine zv_wk hB (L' := [.inr 0, .inr 1, .inr 2, .inr 1000, .inl x4, .inl x5, .inr 3, .inl 1, .inr 1000]) (F' := [.inr 3, .inr 5, .inl f2, .inl f3, .inl f4, .inl f5, .inl f6, .inl f7, .inl f8, .inl f9, .inl f10, .inl f11, .inl f12, .inl f13, .inl f14, .inl f15, .inl f16, .inl f17]) ⟨fun _ => rfl, fun _ => rfl, fun _ => rfl, fun (h : zv_is (.inr 1000)) => (Nat.lt_irrefl 1000 h).elim, fun _ => rfl, fun _ => rfl, fun _ => rfl, fun _ => rfl, fun (h : zv_is (.inr 1000)) => (Nat.lt_irrefl 1000 h).elim, trivial⟩ ⟨fun _ => rfl, fun _ => rfl, fun _ => rfl, fun _ => rfl, fun _ => rfl, fun _ => rfl, fun _ => rfl, fun _ => rfl, fun _ => rfl, fun _ => rfl, fun _ => rfl, fun _ => rfl, fun _ => rfl, fun _ => rfl, fun _ => rfl, fun _ => rfl, fun _ => rfl, fun _ => rfl, trivial⟩ ?_
    refine l0 _ _ _ _ _ _ _ _ _ _ _ _ _ _ _ _ _ _ _ q14 hq14 ?_
    rcases q14 with e15 | w16
    · replace h := zi_sl h
      show good 118 [.inr 1000, .inr 1000, .inr 1000, .inr 1000, .inr 1000, .inr 1000, .inr 1000, .inr 1000, .inr 1000] [] [.inr 3, .inr 5, .inl f2, .inl e15.1, .inl e15.2.1, .inl e15.2.2.1, .inl e15.2.2.2.1, .inl f7, .inl f8, .inl f9, .inl f10, .inl e15.2.2.2.2.1, .inl e15.2.2.2.2.2.1, .inl f13, .inl e15.2.2.2.2.2.2.1, .inl f15, .inl f16, .inl f17] [e15.2.2.2.2.2.2.2.1, e15.2.2.2.2.2.2.2.2.1, e15.2.2.2.2.2.2.2.2.2.1, e15.2.2.2.2.2.2.2.2.2.2.1, g4, g5, g6, g7, g8, e15.2.2.2.2.2.2.2.2.2.2.2.1, g10, g11, g12, g13, e15.2.2.2.2.2.2.2.2.2.2.2.2]
      refine zv_con hB zd167_118 rfl ?_
      have hw := Option.some.inj h
      subst hw
      exact hret _ _ _ _ _ zd167_119 (by constructor <;> decide) ⟨rfl, rfl, rfl⟩
    · exact Option.some.inj h
  · rw [if_pos hc1] at h
    refine zv_ald hB zd167_12 rfl rfl rfl ?_
    refine zv_con hB zd167_13 rfl ?_
    refine zv_putf hB zd167_14 rfl rfl (fun h => by cases h) rfl ?_
    refine zv_ald hB zd167_17 rfl rfl rfl ?_
    refine zv_ald hB zd167_18 rfl rfl rfl ?_
    refine zv_getf hB zd167_20 rfl rfl (fun _ _ => ?_)
    obtain ⟨r17, hr17, h⟩ := zi_bind h
    refine zv_cs hB (zv_emq (va2 := [.inl f2]) (F := [.inr 3, .inr 5, .inl f2, .inl f3, .inl f4, .inl f5, .inl f6, .inl f7, .inl f8, .inl f9, .inl f10, .inl f11, .inl f12, .inl f13, .inl f14, .inl f15, .inl 0, .inl f17]) (F' := [.inr 3, .inr 5, .inl f2, .inl f3, .inl f4, .inl f5, .inl f6, .inl f7, .inl f8, .inl f9, .inl f10, .inl f11, .inl f12, .inl f13, .inl f14, .inl f15, .inl 0, .inl f17]) (G := [g0, g1, g2, g3, g4, g5, g6, g7, g8, g9, g10, g11, g12, g13, g14]) (G' := [g0, g1, g2, g3, g4, g5, g6, g7, g8, g9, g10, g11, g12, g13, g14]) (ρ := []) (φ := []) (ψ := []) [none, none, none, none, none, none, none, none, none, none, none, none, none, none, none, none, none, none] [none, none, none, none, none, none, none, none, none, none, none, none, none, none, none] zyw_X_lowestOf zyw_Pilot_findFastest zye_Pilot_findFastest (by decide +kernel) (zt_X_lowestOf hr17) trivial trivial rfl rfl rfl rfl rfl rfl rfl) zd167_23 zxt105 rfl (by decide) (by decide) rfl ?_
    refine zv_putf hB zd167_26 rfl rfl (fun h => by cases h) rfl ?_
    refine zv_con hB zd167_29 rfl ?_
    have hw := Option.some.inj h
    subst hw
    exact hret _ _ _ _ _ zd167_30 (by constructor <;> decide) ⟨rfl, rfl, rfl⟩
/-! X_fastest (IIIII)I -/
-- names: 0 StarTales('arg', 0), 1 Sea(0, 0, 3), 2 Sky(0, 0, 0), 3 Sky(0, 0, 2), 4 (0, 24)(2, 1, 1), 5 (0, 24)(3, 1, 1), 6 (0, 24)(2, 1, 2), 7 (0, 24)(3, 1, 2), 8 (0, 24)(2, 1, 3), 9 (0, 24)(3, 1, 3), 10 (0, 24)(2, 1, 4), 11 (0, 24)(3, 1, 4), 12 (0, 24)(2, 1, 5), 13 (0, 24)(3, 1, 5), 14 View(0, 0, 12), 15 Law(0, 0, 7), 16 (0, 24)(14, 7, 8), 17 Pilot(0, 0, 15), 18 (0, 6)(1, 2, 2), 19 (0, 24)(17, 9, 4), 20 (0, 13)(15, 4, 12), 21 (0, 14)(15, 4, 3), 22 (0, 14)(15, 4, 5), 23 (0, 14)(15, 4, 6), 24 (0, 200)(15, 4, 0), 25 (0, 40)(15, 4, 13), 26 (0, 200)(15, 4, 1), 27 (0, 12)(1, 2, 0)
-- fields: f0 = 1.shipsTold_, f1 = 2.told_, f2 = 3.told_, f3 = 2.hour_, f4 = 3.hour_, f5 = 2.night_, f6 = 3.night_, f7 = 2.clouds_, f8 = 3.clouds_, f9 = 2.sightColumns_, f10 = 3.sightColumns_, f11 = 2.sightRows_, f12 = 3.sightRows_, f13 = 2.chance_, f14 = 3.chance_, f15 = 0.ruling_, f16 = 14.sky_, f17 = 14.law_, f18 = 14.starsAsked_, f19 = 14.x_, f20 = 14.y_, f21 = 15.tellsSeen_, f22 = 14.starsHold_, f23 = 15.clauses_, f24 = 15.answer_, f25 = 15.seenByPlace_, f26 = 17.hoursTaken_, f27 = 17.firstStar_; arrays: g0 = 4, g1 = 5, g2 = 6, g3 = 7, g4 = 8, g5 = 9, g6 = 10, g7 = 11, g8 = 12, g9 = 13, g10 = 16, g11 = 18, g12 = 19, g13 = 20, g14 = 21, g15 = 22, g16 = 23, g17 = 24, g18 = 25, g19 = 26, g20 = 27; out: [('ret', None), ('f', 2), ('f', 4), ('f', 6), ('f', 8), ('f', 10), ('f', 12), ('f', 14), ('f', 18), ('f', 19), ('f', 20), ('f', 22), ('f', 24), ('f', 26), ('f', 27), ('g', 1), ('g', 3), ('g', 5), ('g', 7), ('g', 9), ('g', 10), ('g', 12), ('g', 13), ('g', 18)]
abbrev zy_X_fastest : zNL := (28, [(0, 0), (1, 2), (2, 1), (3, 1), (14, 7), (15, 4), (17, 9)], [(1, 2, 1, 0), (2, 1, 0, 1), (3, 1, 0, 2), (2, 1, 6, 3), (3, 1, 6, 4), (2, 1, 7, 5), (3, 1, 7, 6), (2, 1, 8, 7), (3, 1, 8, 8), (2, 1, 9, 9), (3, 1, 9, 10), (2, 1, 10, 11), (3, 1, 10, 12), (2, 1, 11, 13), (3, 1, 11, 14), (0, 0, 7, 15), (14, 7, 0, 16), (14, 7, 1, 17), (14, 7, 6, 18), (14, 7, 2, 19), (14, 7, 3, 20), (15, 4, 8, 21), (14, 7, 7, 22), (15, 4, 7, 23), (15, 4, 14, 24), (15, 4, 10, 25), (17, 9, 0, 26), (17, 9, 1, 27)], [(0, 0, 3, 1), (0, 0, 0, 2), (0, 0, 2, 3), (2, 1, 1, 4), (3, 1, 1, 5), (2, 1, 2, 6), (3, 1, 2, 7), (2, 1, 3, 8), (3, 1, 3, 9), (2, 1, 4, 10), (3, 1, 4, 11), (2, 1, 5, 12), (3, 1, 5, 13), (0, 0, 12, 14), (14, 7, 8, 16), (0, 0, 15, 17), (1, 2, 2, 18), (17, 9, 4, 19), (15, 4, 12, 20), (15, 4, 3, 21), (15, 4, 5, 22), (15, 4, 6, 23), (15, 4, 0, 24), (15, 4, 13, 25), (15, 4, 1, 26), (1, 2, 0, 27)], [(4, 0, 24, 0), (5, 0, 24, 1), (6, 0, 24, 2), (7, 0, 24, 3), (8, 0, 24, 4), (9, 0, 24, 5), (10, 0, 24, 6), (11, 0, 24, 7), (12, 0, 24, 8), (13, 0, 24, 9), (16, 0, 24, 10), (18, 0, 6, 11), (19, 0, 24, 12), (20, 0, 13, 13), (21, 0, 14, 14), (22, 0, 14, 15), (23, 0, 14, 16), (24, 0, 200, 17), (25, 0, 40, 18), (26, 0, 200, 19), (27, 0, 12, 20)])
theorem zyw_X_fastest : zv_wf zy_X_fastest = true := by decide +kernel
theorem zye_X_fastest : zv_ek2 zy_X_fastest = true := by decide +kernel
def zf_X_fastest (x1 : Int) (x2 : Int) (x3 : Int) (x4 : Int) (x5 : Int) (f0 : Int) (f1 : Int) (f2 : Int) (f3 : Int) (f4 : Int) (f5 : Int) (f6 : Int) (f7 : Int) (f8 : Int) (f9 : Int) (f10 : Int) (f11 : Int) (f12 : Int) (f13 : Int) (f14 : Int) (f18 : Int) (f19 : Int) (f20 : Int) (f21 : Int) (f22 : Int) (f23 : Int) (f24 : Int) (f25 : Int) (f26 : Int) (f27 : Int) (g0 : (Int → Int)) (g1 : (Int → Int)) (g2 : (Int → Int)) (g3 : (Int → Int)) (g4 : (Int → Int)) (g5 : (Int → Int)) (g6 : (Int → Int)) (g7 : (Int → Int)) (g8 : (Int → Int)) (g9 : (Int → Int)) (g10 : (Int → Int)) (g11 : (Int → Int)) (g12 : (Int → Int)) (g13 : (Int → Int)) (g14 : (Int → Int)) (g15 : (Int → Int)) (g16 : (Int → Int)) (g17 : (Int → Int)) (g18 : (Int → Int)) (g19 : (Int → Int)) (g20 : (Int → Int)) : Option (Int × Int × Int × Int × Int × Int × Int × Int × Int × Int × Int × Int × Int × Int × Int × (Int → Int) × (Int → Int) × (Int → Int) × (Int → Int) × (Int → Int) × (Int → Int) × (Int → Int) × (Int → Int) × (Int → Int)) := (zf_X_canAskVoyage x1 x2 x3 f0 f1).bind fun r1 => (if r1 = 0 then (some ((-1), f2, f4, f6, f8, f10, f12, f14, f18, f19, f20, f22, f24, f26, f27, g1, g3, g5, g7, g9, g10, g12, g13, g18)) else ((zf_X_isWithin x4 1 48).bind fun r3 => (if r3 = 0 then (some ((-1), f2, f4, f6, f8, f10, f12, f14, f18, f19, f20, f22, f24, f26, f27, g1, g3, g5, g7, g9, g10, g12, g13, g18)) else ((zf_X_isWithin x5 0 1).bind fun r5 => (if r5 = 0 then (some ((-1), f2, f4, f6, f8, f10, f12, f14, f18, f19, f20, f22, f24, f26, f27, g1, g3, g5, g7, g9, g10, g12, g13, g18)) else ((zf_Sky_copyFrom f1 f2 f3 f4 f5 f6 f7 f8 f9 f10 f11 f12 f13 f14 g0 g1 g2 g3 g4 g5 g6 g7 g8 g9).bind fun r7 => ((zf_View_open f18 g10).bind fun r8 => (cond (zi_ix x1 6) ((zf_X_placeOf x2 x3).bind fun r10 => ((zf_Pilot_findFastest (g11 x1) r10 x4 r7.1 f19 f20 r7.2.1 r7.2.2.1 r7.2.2.2.2.1 r7.2.2.2.2.2.1 r7.2.2.2.1 f21 r8.1 f22 f23 f24 f25 f26 f27 g12 g13 r7.2.2.2.2.2.2.2.1 r7.2.2.2.2.2.2.2.2.1 r7.2.2.2.2.2.2.2.2.2.1 g14 g15 g16 g17 g18 g19 g20 r7.2.2.2.2.2.2.2.2.2.2.1 r7.2.2.2.2.2.2.2.2.2.2.2 r8.2).bind fun r11 => (if r11.1 = 0 then (some ((-2), r7.1, r11.2.2.2.1, r11.2.2.2.2.1, r7.2.2.2.1, r7.2.2.2.2.1, r7.2.2.2.2.2.1, r7.2.2.2.2.2.2.1, r11.2.2.2.2.2.1, r11.2.1, r11.2.2.1, r11.2.2.2.2.2.2.1, r11.2.2.2.2.2.2.2.1, r11.2.2.2.2.2.2.2.2.1, r11.2.2.2.2.2.2.2.2.2.1, r11.2.2.2.2.2.2.2.2.2.2.2.2.1, r11.2.2.2.2.2.2.2.2.2.2.2.2.2.1, r7.2.2.2.2.2.2.2.2.2.1, r7.2.2.2.2.2.2.2.2.2.2.1, r7.2.2.2.2.2.2.2.2.2.2.2, r11.2.2.2.2.2.2.2.2.2.2.2.2.2.2.2, r11.2.2.2.2.2.2.2.2.2.2.1, r11.2.2.2.2.2.2.2.2.2.2.2.1, r11.2.2.2.2.2.2.2.2.2.2.2.2.2.2.1)) else (if x5 = 0 then (some (r11.2.2.2.2.2.2.2.2.1, r7.1, r11.2.2.2.1, r11.2.2.2.2.1, r7.2.2.2.1, r7.2.2.2.2.1, r7.2.2.2.2.2.1, r7.2.2.2.2.2.2.1, r11.2.2.2.2.2.1, r11.2.1, r11.2.2.1, r11.2.2.2.2.2.2.1, r11.2.2.2.2.2.2.2.1, r11.2.2.2.2.2.2.2.2.1, r11.2.2.2.2.2.2.2.2.2.1, r11.2.2.2.2.2.2.2.2.2.2.2.2.1, r11.2.2.2.2.2.2.2.2.2.2.2.2.2.1, r7.2.2.2.2.2.2.2.2.2.1, r7.2.2.2.2.2.2.2.2.2.2.1, r7.2.2.2.2.2.2.2.2.2.2.2, r11.2.2.2.2.2.2.2.2.2.2.2.2.2.2.2, r11.2.2.2.2.2.2.2.2.2.2.1, r11.2.2.2.2.2.2.2.2.2.2.2.1, r11.2.2.2.2.2.2.2.2.2.2.2.2.2.2.1)) else (some (r11.2.2.2.2.2.2.2.2.2.1, r7.1, r11.2.2.2.1, r11.2.2.2.2.1, r7.2.2.2.1, r7.2.2.2.2.1, r7.2.2.2.2.2.1, r7.2.2.2.2.2.2.1, r11.2.2.2.2.2.1, r11.2.1, r11.2.2.1, r11.2.2.2.2.2.2.1, r11.2.2.2.2.2.2.2.1, r11.2.2.2.2.2.2.2.2.1, r11.2.2.2.2.2.2.2.2.2.1, r11.2.2.2.2.2.2.2.2.2.2.2.2.1, r11.2.2.2.2.2.2.2.2.2.2.2.2.2.1, r7.2.2.2.2.2.2.2.2.2.1, r7.2.2.2.2.2.2.2.2.2.2.1, r7.2.2.2.2.2.2.2.2.2.2.2, r11.2.2.2.2.2.2.2.2.2.2.2.2.2.2.2, r11.2.2.2.2.2.2.2.2.2.2.1, r11.2.2.2.2.2.2.2.2.2.2.2.1, r11.2.2.2.2.2.2.2.2.2.2.2.2.2.2.1)))))) none))))))))
theorem zd165_0 : decode zxm165.2.1 0 = .ok (.aload_n 0, 1) := by decide +kernel
theorem zd165_1 : decode zxm165.2.1 1 = .ok (.iload_n 1, 1) := by decide +kernel
theorem zd165_2 : decode zxm165.2.1 2 = .ok (.iload_n 2, 1) := by decide +kernel
theorem zd165_3 : decode zxm165.2.1 3 = .ok (.iload_n 3, 1) := by decide +kernel
theorem zd165_4 : decode zxm165.2.1 4 = .ok (.invokevirtual 353, 3) := by decide +kernel
theorem zd165_7 : decode zxm165.2.1 7 = .ok (.ifCond .eq 24, 3) := by decide +kernel
theorem zd165_10 : decode zxm165.2.1 10 = .ok (.iload 4, 2) := by decide +kernel
theorem zd165_12 : decode zxm165.2.1 12 = .ok (.iconst 1, 1) := by decide +kernel
theorem zd165_13 : decode zxm165.2.1 13 = .ok (.bipush 48, 2) := by decide +kernel
theorem zd165_15 : decode zxm165.2.1 15 = .ok (.invokestatic 126, 3) := by decide +kernel
theorem zd165_18 : decode zxm165.2.1 18 = .ok (.ifCond .eq 13, 3) := by decide +kernel
theorem zd165_21 : decode zxm165.2.1 21 = .ok (.iload 5, 2) := by decide +kernel
theorem zd165_23 : decode zxm165.2.1 23 = .ok (.iconst 0, 1) := by decide +kernel
theorem zd165_24 : decode zxm165.2.1 24 = .ok (.iconst 1, 1) := by decide +kernel
theorem zd165_25 : decode zxm165.2.1 25 = .ok (.invokestatic 126, 3) := by decide +kernel
theorem zd165_28 : decode zxm165.2.1 28 = .ok (.ifCond .ne 5, 3) := by decide +kernel
theorem zd165_31 : decode zxm165.2.1 31 = .ok (.iconst (-1), 1) := by decide +kernel
theorem zd165_32 : decode zxm165.2.1 32 = .ok (.ireturn, 1) := by decide +kernel
theorem zd165_33 : decode zxm165.2.1 33 = .ok (.aload_n 0, 1) := by decide +kernel
theorem zd165_34 : decode zxm165.2.1 34 = .ok (.getfield 19, 3) := by decide +kernel
theorem zd165_37 : decode zxm165.2.1 37 = .ok (.aload_n 0, 1) := by decide +kernel
theorem zd165_38 : decode zxm165.2.1 38 = .ok (.getfield 10, 3) := by decide +kernel
theorem zd165_41 : decode zxm165.2.1 41 = .ok (.invokevirtual 273, 3) := by decide +kernel
theorem zd165_44 : decode zxm165.2.1 44 = .ok (.aload_n 0, 1) := by decide +kernel
theorem zd165_45 : decode zxm165.2.1 45 = .ok (.getfield 81, 3) := by decide +kernel
theorem zd165_48 : decode zxm165.2.1 48 = .ok (.aload_n 0, 1) := by decide +kernel
theorem zd165_49 : decode zxm165.2.1 49 = .ok (.getfield 19, 3) := by decide +kernel
theorem zd165_52 : decode zxm165.2.1 52 = .ok (.aload_n 0, 1) := by decide +kernel
theorem zd165_53 : decode zxm165.2.1 53 = .ok (.getfield 46, 3) := by decide +kernel
theorem zd165_56 : decode zxm165.2.1 56 = .ok (.invokevirtual 211, 3) := by decide +kernel
theorem zd165_59 : decode zxm165.2.1 59 = .ok (.aload_n 0, 1) := by decide +kernel
theorem zd165_60 : decode zxm165.2.1 60 = .ok (.getfield 103, 3) := by decide +kernel
theorem zd165_63 : decode zxm165.2.1 63 = .ok (.aload_n 0, 1) := by decide +kernel
theorem zd165_64 : decode zxm165.2.1 64 = .ok (.getfield 81, 3) := by decide +kernel
theorem zd165_67 : decode zxm165.2.1 67 = .ok (.aload_n 0, 1) := by decide +kernel
theorem zd165_68 : decode zxm165.2.1 68 = .ok (.getfield 25, 3) := by decide +kernel
theorem zd165_71 : decode zxm165.2.1 71 = .ok (.aload_n 0, 1) := by decide +kernel
theorem zd165_72 : decode zxm165.2.1 72 = .ok (.getfield 25, 3) := by decide +kernel
theorem zd165_75 : decode zxm165.2.1 75 = .ok (.getfield 187, 3) := by decide +kernel
theorem zd165_78 : decode zxm165.2.1 78 = .ok (.iload_n 1, 1) := by decide +kernel
theorem zd165_79 : decode zxm165.2.1 79 = .ok (.iaload, 1) := by decide +kernel
theorem zd165_80 : decode zxm165.2.1 80 = .ok (.iload_n 2, 1) := by decide +kernel
theorem zd165_81 : decode zxm165.2.1 81 = .ok (.iload_n 3, 1) := by decide +kernel
theorem zd165_82 : decode zxm165.2.1 82 = .ok (.invokestatic 170, 3) := by decide +kernel
theorem zd165_85 : decode zxm165.2.1 85 = .ok (.iload 4, 2) := by decide +kernel
theorem zd165_87 : decode zxm165.2.1 87 = .ok (.invokevirtual 356, 3) := by decide +kernel
theorem zd165_90 : decode zxm165.2.1 90 = .ok (.ifCond .ne 6, 3) := by decide +kernel
theorem zd165_93 : decode zxm165.2.1 93 = .ok (.bipush (-2), 2) := by decide +kernel
theorem zd165_95 : decode zxm165.2.1 95 = .ok (.ireturn, 1) := by decide +kernel
theorem zd165_96 : decode zxm165.2.1 96 = .ok (.iload 5, 2) := by decide +kernel
theorem zd165_98 : decode zxm165.2.1 98 = .ok (.ifCond .ne 13, 3) := by decide +kernel
theorem zd165_101 : decode zxm165.2.1 101 = .ok (.aload_n 0, 1) := by decide +kernel
theorem zd165_102 : decode zxm165.2.1 102 = .ok (.getfield 103, 3) := by decide +kernel
theorem zd165_105 : decode zxm165.2.1 105 = .ok (.getfield 360, 3) := by decide +kernel
theorem zd165_108 : decode zxm165.2.1 108 = .ok (.goto 10, 3) := by decide +kernel
theorem zd165_111 : decode zxm165.2.1 111 = .ok (.aload_n 0, 1) := by decide +kernel
theorem zd165_112 : decode zxm165.2.1 112 = .ok (.getfield 103, 3) := by decide +kernel
theorem zd165_115 : decode zxm165.2.1 115 = .ok (.getfield 363, 3) := by decide +kernel
theorem zd165_118 : decode zxm165.2.1 118 = .ok (.ireturn, 1) := by decide +kernel
theorem zt_X_fastest {x1 : Int} {x2 : Int} {x3 : Int} {x4 : Int} {x5 : Int} {f0 : Int} {f1 : Int} {f2 : Int} {f3 : Int} {f4 : Int} {f5 : Int} {f6 : Int} {f7 : Int} {f8 : Int} {f9 : Int} {f10 : Int} {f11 : Int} {f12 : Int} {f13 : Int} {f14 : Int} {f18 : Int} {f19 : Int} {f20 : Int} {f21 : Int} {f22 : Int} {f23 : Int} {f24 : Int} {f25 : Int} {f26 : Int} {f27 : Int} {g0 : (Int → Int)} {g1 : (Int → Int)} {g2 : (Int → Int)} {g3 : (Int → Int)} {g4 : (Int → Int)} {g5 : (Int → Int)} {g6 : (Int → Int)} {g7 : (Int → Int)} {g8 : (Int → Int)} {g9 : (Int → Int)} {g10 : (Int → Int)} {g11 : (Int → Int)} {g12 : (Int → Int)} {g13 : (Int → Int)} {g14 : (Int → Int)} {g15 : (Int → Int)} {g16 : (Int → Int)} {g17 : (Int → Int)} {g18 : (Int → Int)} {g19 : (Int → Int)} {g20 : (Int → Int)} {o : Int × Int × Int × Int × Int × Int × Int × Int × Int × Int × Int × Int × Int × Int × Int × (Int → Int) × (Int → Int) × (Int → Int) × (Int → Int) × (Int → Int) × (Int → Int) × (Int → Int) × (Int → Int) × (Int → Int)} (h : zf_X_fastest x1 x2 x3 x4 x5 f0 f1 f2 f3 f4 f5 f6 f7 f8 f9 f10 f11 f12 f13 f14 f18 f19 f20 f21 f22 f23 f24 f25 f26 f27 g0 g1 g2 g3 g4 g5 g6 g7 g8 g9 g10 g11 g12 g13 g14 g15 g16 g17 g18 g19 g20 = some o) : zv_Fn z_TB z_cl z_KX zy_X_fastest zxm165 (7, 420) [.inr 0, .inl x1, .inl x2, .inl x3, .inl x4, .inl x5] [.inl f0, .inl f1, .inl f2, .inl f3, .inl f4, .inl f5, .inl f6, .inl f7, .inl f8, .inl f9, .inl f10, .inl f11, .inl f12, .inl f13, .inl f14, .inr 15, .inr 1000, .inr 1000, .inl f18, .inl f19, .inl f20, .inl f21, .inl f22, .inl f23, .inl f24, .inl f25, .inl f26, .inl f27] [g0, g1, g2, g3, g4, g5, g6, g7, g8, g9, g10, g11, g12, g13, g14, g15, g16, g17, g18, g19, g20] (some o.1) [.inl f0, .inl f1, .inl o.2.1, .inl f3, .inl o.2.2.1, .inl f5, .inl o.2.2.2.1, .inl f7, .inl o.2.2.2.2.1, .inl f9, .inl o.2.2.2.2.2.1, .inl f11, .inl o.2.2.2.2.2.2.1, .inl f13, .inl o.2.2.2.2.2.2.2.1, .inr 15, .inr 1000, .inr 1000, .inl o.2.2.2.2.2.2.2.2.1, .inl o.2.2.2.2.2.2.2.2.2.1, .inl o.2.2.2.2.2.2.2.2.2.2.1, .inl f21, .inl o.2.2.2.2.2.2.2.2.2.2.2.1, .inl f23, .inl o.2.2.2.2.2.2.2.2.2.2.2.2.1, .inl f25, .inl o.2.2.2.2.2.2.2.2.2.2.2.2.2.1, .inl o.2.2.2.2.2.2.2.2.2.2.2.2.2.2.1] [g0, o.2.2.2.2.2.2.2.2.2.2.2.2.2.2.2.1, g2, o.2.2.2.2.2.2.2.2.2.2.2.2.2.2.2.2.1, g4, o.2.2.2.2.2.2.2.2.2.2.2.2.2.2.2.2.2.1, g6, o.2.2.2.2.2.2.2.2.2.2.2.2.2.2.2.2.2.2.1, g8, o.2.2.2.2.2.2.2.2.2.2.2.2.2.2.2.2.2.2.2.1, o.2.2.2.2.2.2.2.2.2.2.2.2.2.2.2.2.2.2.2.2.1, g11, o.2.2.2.2.2.2.2.2.2.2.2.2.2.2.2.2.2.2.2.2.2.1, o.2.2.2.2.2.2.2.2.2.2.2.2.2.2.2.2.2.2.2.2.2.2.1, g14, g15, g16, g17, o.2.2.2.2.2.2.2.2.2.2.2.2.2.2.2.2.2.2.2.2.2.2.2, g19, g20] := zv_meth (K := (z_KF0, z_KC0, z_KL0, z_KT0, [], [], [], none)) (FT := z_FT) (MT := z_MT) (n := 6) zxp165 (z_ks0 _ (fun _ h => List.mem_cons_of_mem _ h) _ _ _ _ (fun j r h _ => by cases h)) (fun _ _ => zs_KX_p) zyw_X_fastest (fun va F G h => by obtain ⟨rfl, _⟩ := h; rfl) (fun va F G h => by obtain ⟨rfl, _⟩ := h; rfl) rfl fun good va F G hB hret hvret hP => by
  obtain ⟨rfl, rfl, rfl⟩ := hP
  unfold zf_X_fastest at h
  refine zv_ald hB zd165_0 rfl rfl rfl ?_
  refine zv_ild hB zd165_1 rfl rfl ?_
  refine zv_ild hB zd165_2 rfl rfl ?_
  refine zv_ild hB zd165_3 rfl rfl ?_
  obtain ⟨r1, hr1, h⟩ := zi_bind h
  refine zv_cv hB (zv_emq (va2 := [.inr 0, .inl x1, .inl x2, .inl x3]) (F := [.inl f0, .inl f1, .inl f2, .inl f3, .inl f4, .inl f5, .inl f6, .inl f7, .inl f8, .inl f9, .inl f10, .inl f11, .inl f12, .inl f13, .inl f14, .inr 15, .inr 1000, .inr 1000, .inl f18, .inl f19, .inl f20, .inl f21, .inl f22, .inl f23, .inl f24, .inl f25, .inl f26, .inl f27]) (F' := [.inl f0, .inl f1, .inl f2, .inl f3, .inl f4, .inl f5, .inl f6, .inl f7, .inl f8, .inl f9, .inl f10, .inl f11, .inl f12, .inl f13, .inl f14, .inr 15, .inr 1000, .inr 1000, .inl f18, .inl f19, .inl f20, .inl f21, .inl f22, .inl f23, .inl f24, .inl f25, .inl f26, .inl f27]) (G := [g0, g1, g2, g3, g4, g5, g6, g7, g8, g9, g10, g11, g12, g13, g14, g15, g16, g17, g18, g19, g20]) (G' := [g0, g1, g2, g3, g4, g5, g6, g7, g8, g9, g10, g11, g12, g13, g14, g15, g16, g17, g18, g19, g20]) (ρ := [0, 1, 2]) (φ := [0, 1]) (ψ := []) [some 0, some 1, none, none, none, none, none, none, none, none, none, none, none, none, none, none, none, none, none, none, none, none, none, none, none, none, none, none] [none, none, none, none, none, none, none, none, none, none, none, none, none, none, none, none, none, none, none, none, none] zyw_X_canAskVoyage zyw_X_fastest zye_X_fastest (by decide +kernel) (zt_X_canAskVoyage hr1) ⟨⟨_, rfl, fun _ => rfl⟩, ⟨_, rfl, fun _ => rfl⟩, trivial⟩ trivial rfl rfl rfl rfl rfl rfl rfl) zd165_4 zxt166 rfl (by decide) (by decide) rfl ?_
  refine zv_zeq hB zd165_7 rfl (fun hc2 => ?_) (fun hc2 => ?_)
  · rw [if_pos hc2] at h
    refine zv_con hB zd165_31 rfl ?_
    have hw := Option.some.inj h
    subst hw
    exact hret _ _ _ _ _ zd165_32 (by trivial) ⟨rfl, rfl, rfl⟩
  · rw [if_neg hc2] at h
    refine zv_ild hB zd165_10 rfl rfl ?_
    refine zv_con hB zd165_12 rfl ?_
    refine zv_con hB zd165_13 rfl ?_
    obtain ⟨r3, hr3, h⟩ := zi_bind h
    refine zv_cs hB (zv_emq (va2 := [.inl x4, .inl 1, .inl 48]) (F := [.inl f0, .inl f1, .inl f2, .inl f3, .inl f4, .inl f5, .inl f6, .inl f7, .inl f8, .inl f9, .inl f10, .inl f11, .inl f12, .inl f13, .inl f14, .inr 15, .inr 1000, .inr 1000, .inl f18, .inl f19, .inl f20, .inl f21, .inl f22, .inl f23, .inl f24, .inl f25, .inl f26, .inl f27]) (F' := [.inl f0, .inl f1, .inl f2, .inl f3, .inl f4, .inl f5, .inl f6, .inl f7, .inl f8, .inl f9, .inl f10, .inl f11, .inl f12, .inl f13, .inl f14, .inr 15, .inr 1000, .inr 1000, .inl f18, .inl f19, .inl f20, .inl f21, .inl f22, .inl f23, .inl f24, .inl f25, .inl f26, .inl f27]) (G := [g0, g1, g2, g3, g4, g5, g6, g7, g8, g9, g10, g11, g12, g13, g14, g15, g16, g17, g18, g19, g20]) (G' := [g0, g1, g2, g3, g4, g5, g6, g7, g8, g9, g10, g11, g12, g13, g14, g15, g16, g17, g18, g19, g20]) (ρ := []) (φ := []) (ψ := []) [none, none, none, none, none, none, none, none, none, none, none, none, none, none, none, none, none, none, none, none, none, none, none, none, none, none, none, none] [none, none, none, none, none, none, none, none, none, none, none, none, none, none, none, none, none, none, none, none, none] zyw_X_isWithin zyw_X_fastest zye_X_fastest (by decide +kernel) (zt_X_isWithin hr3) trivial trivial rfl rfl rfl rfl rfl rfl rfl) zd165_15 zxt15 rfl (by decide) (by decide) rfl ?_
    refine zv_zeq hB zd165_18 rfl (fun hc4 => ?_) (fun hc4 => ?_)
    · rw [if_pos hc4] at h
      refine zv_con hB zd165_31 rfl ?_
      have hw := Option.some.inj h
      subst hw
      exact hret _ _ _ _ _ zd165_32 (by trivial) ⟨rfl, rfl, rfl⟩
    · rw [if_neg hc4] at h
      refine zv_ild hB zd165_21 rfl rfl ?_
      refine zv_con hB zd165_23 rfl ?_
      refine zv_con hB zd165_24 rfl ?_
      obtain ⟨r5, hr5, h⟩ := zi_bind h
      refine zv_cs hB (zv_emq (va2 := [.inl x5, .inl 0, .inl 1]) (F := [.inl f0, .inl f1, .inl f2, .inl f3, .inl f4, .inl f5, .inl f6, .inl f7, .inl f8, .inl f9, .inl f10, .inl f11, .inl f12, .inl f13, .inl f14, .inr 15, .inr 1000, .inr 1000, .inl f18, .inl f19, .inl f20, .inl f21, .inl f22, .inl f23, .inl f24, .inl f25, .inl f26, .inl f27]) (F' := [.inl f0, .inl f1, .inl f2, .inl f3, .inl f4, .inl f5, .inl f6, .inl f7, .inl f8, .inl f9, .inl f10, .inl f11, .inl f12, .inl f13, .inl f14, .inr 15, .inr 1000, .inr 1000, .inl f18, .inl f19, .inl f20, .inl f21, .inl f22, .inl f23, .inl f24, .inl f25, .inl f26, .inl f27]) (G := [g0, g1, g2, g3, g4, g5, g6, g7, g8, g9, g10, g11, g12, g13, g14, g15, g16, g17, g18, g19, g20]) (G' := [g0, g1, g2, g3, g4, g5, g6, g7, g8, g9, g10, g11, g12, g13, g14, g15, g16, g17, g18, g19, g20]) (ρ := []) (φ := []) (ψ := []) [none, none, none, none, none, none, none, none, none, none, none, none, none, none, none, none, none, none, none, none, none, none, none, none, none, none, none, none] [none, none, none, none, none, none, none, none, none, none, none, none, none, none, none, none, none, none, none, none, none] zyw_X_isWithin zyw_X_fastest zye_X_fastest (by decide +kernel) (zt_X_isWithin hr5) trivial trivial rfl rfl rfl rfl rfl rfl rfl) zd165_25 zxt15 rfl (by decide) (by decide) rfl ?_
      refine zv_zne hB zd165_28 rfl (fun hc6 => ?_) (fun hc6 => ?_)
      · rw [if_neg hc6] at h
        refine zv_ald hB zd165_33 rfl rfl rfl ?_
        refine zv_getr hB zd165_34 rfl ?_
        refine zv_ald hB zd165_37 rfl rfl rfl ?_
        refine zv_getr hB zd165_38 rfl ?_
        obtain ⟨r7, hr7, h⟩ := zi_bind h
        refine zv_cv hB (zv_emq (va2 := [.inr 3, .inr 2]) (F := [.inl f0, .inl f1, .inl f2, .inl f3, .inl f4, .inl f5, .inl f6, .inl f7, .inl f8, .inl f9, .inl f10, .inl f11, .inl f12, .inl f13, .inl f14, .inr 15, .inr 1000, .inr 1000, .inl f18, .inl f19, .inl f20, .inl f21, .inl f22, .inl f23, .inl f24, .inl f25, .inl f26, .inl f27]) (F' := [.inl f0, .inl f1, .inl r7.1, .inl f3, .inl r7.2.1, .inl f5, .inl r7.2.2.1, .inl f7, .inl r7.2.2.2.1, .inl f9, .inl r7.2.2.2.2.1, .inl f11, .inl r7.2.2.2.2.2.1, .inl f13, .inl r7.2.2.2.2.2.2.1, .inr 15, .inr 1000, .inr 1000, .inl f18, .inl f19, .inl f20, .inl f21, .inl f22, .inl f23, .inl f24, .inl f25, .inl f26, .inl f27]) (G := [g0, g1, g2, g3, g4, g5, g6, g7, g8, g9, g10, g11, g12, g13, g14, g15, g16, g17, g18, g19, g20]) (G' := [g0, r7.2.2.2.2.2.2.2.1, g2, r7.2.2.2.2.2.2.2.2.1, g4, r7.2.2.2.2.2.2.2.2.2.1, g6, r7.2.2.2.2.2.2.2.2.2.2.1, g8, r7.2.2.2.2.2.2.2.2.2.2.2, g10, g11, g12, g13, g14, g15, g16, g17, g18, g19, g20]) (ρ := [3, 2, 4, 5, 6, 7, 8, 9, 10, 11, 12, 13]) (φ := [1, 2, 3, 4, 5, 6, 7, 8, 9, 10, 11, 12, 13, 14]) (ψ := [0, 1, 2, 3, 4, 5, 6, 7, 8, 9]) [none, some 0, some 1, some 2, some 3, some 4, some 5, some 6, some 7, some 8, some 9, some 10, some 11, some 12, some 13, none, none, none, none, none, none, none, none, none, none, none, none, none] [some 0, some 1, some 2, some 3, some 4, some 5, some 6, some 7, some 8, some 9, none, none, none, none, none, none, none, none, none, none, none] zyw_Sky_copyFrom zyw_X_fastest zye_X_fastest (by decide +kernel) (zt_Sky_copyFrom hr7) ⟨⟨_, rfl, fun _ => rfl⟩, ⟨_, rfl, fun _ => rfl⟩, ⟨_, rfl, fun _ => rfl⟩, ⟨_, rfl, fun _ => rfl⟩, ⟨_, rfl, fun _ => rfl⟩, ⟨_, rfl, fun _ => rfl⟩, ⟨_, rfl, fun _ => rfl⟩, ⟨_, rfl, fun _ => rfl⟩, ⟨_, rfl, fun _ => rfl⟩, ⟨_, rfl, fun _ => rfl⟩, ⟨_, rfl, fun _ => rfl⟩, ⟨_, rfl, fun _ => rfl⟩, ⟨_, rfl, fun _ => rfl⟩, ⟨_, rfl, fun _ => rfl⟩, trivial⟩ ⟨rfl, rfl, rfl, rfl, rfl, rfl, rfl, rfl, rfl, rfl, trivial⟩ rfl rfl rfl rfl rfl rfl rfl) zd165_41 zxt125 rfl (by decide) (by decide) rfl ?_
        refine zv_ald hB zd165_44 rfl rfl rfl ?_
        refine zv_getr hB zd165_45 rfl ?_
        refine zv_ald hB zd165_48 rfl rfl rfl ?_
        refine zv_getr hB zd165_49 rfl ?_
        refine zv_ald hB zd165_52 rfl rfl rfl ?_
        refine zv_getq hB zd165_53 rfl rfl rfl ?_
        obtain ⟨r8, hr8, h⟩ := zi_bind h
        refine zv_cv hB (zv_emq (va2 := [.inr 14, .inr 3, .inr 15]) (F := [.inl f0, .inl f1, .inl r7.1, .inl f3, .inl r7.2.1, .inl f5, .inl r7.2.2.1, .inl f7, .inl r7.2.2.2.1, .inl f9, .inl r7.2.2.2.2.1, .inl f11, .inl r7.2.2.2.2.2.1, .inl f13, .inl r7.2.2.2.2.2.2.1, .inr 15, .inr 1000, .inr 1000, .inl f18, .inl f19, .inl f20, .inl f21, .inl f22, .inl f23, .inl f24, .inl f25, .inl f26, .inl f27]) (F' := [.inl f0, .inl f1, .inl r7.1, .inl f3, .inl r7.2.1, .inl f5, .inl r7.2.2.1, .inl f7, .inl r7.2.2.2.1, .inl f9, .inl r7.2.2.2.2.1, .inl f11, .inl r7.2.2.2.2.2.1, .inl f13, .inl r7.2.2.2.2.2.2.1, .inr 15, .inr 3, .inr 15, .inl r8.1, .inl f19, .inl f20, .inl f21, .inl f22, .inl f23, .inl f24, .inl f25, .inl f26, .inl f27]) (G := [g0, r7.2.2.2.2.2.2.2.1, g2, r7.2.2.2.2.2.2.2.2.1, g4, r7.2.2.2.2.2.2.2.2.2.1, g6, r7.2.2.2.2.2.2.2.2.2.2.1, g8, r7.2.2.2.2.2.2.2.2.2.2.2, g10, g11, g12, g13, g14, g15, g16, g17, g18, g19, g20]) (G' := [g0, r7.2.2.2.2.2.2.2.1, g2, r7.2.2.2.2.2.2.2.2.1, g4, r7.2.2.2.2.2.2.2.2.2.1, g6, r7.2.2.2.2.2.2.2.2.2.2.1, g8, r7.2.2.2.2.2.2.2.2.2.2.2, r8.2, g11, g12, g13, g14, g15, g16, g17, g18, g19, g20]) (ρ := [14, 3, 15, 16]) (φ := [16, 17, 18]) (ψ := [10]) [none, none, none, none, none, none, none, none, none, none, none, none, none, none, none, none, some 0, some 1, some 2, none, none, none, none, none, none, none, none, none] [none, none, none, none, none, none, none, none, none, none, some 0, none, none, none, none, none, none, none, none, none, none] zyw_View_open zyw_X_fastest zye_X_fastest (by decide +kernel) (zt_View_open hr8) ⟨⟨_, rfl, fun (h : zv_is (.inr 1000)) => (Nat.lt_irrefl 1000 h).elim⟩, ⟨_, rfl, fun (h : zv_is (.inr 1000)) => (Nat.lt_irrefl 1000 h).elim⟩, ⟨_, rfl, fun _ => rfl⟩, trivial⟩ ⟨rfl, trivial⟩ rfl rfl rfl rfl rfl rfl rfl) zd165_56 zxt84 rfl (by decide) (by decide) rfl ?_
        refine zv_ald hB zd165_59 rfl rfl rfl ?_
        refine zv_getr hB zd165_60 rfl ?_
        refine zv_ald hB zd165_63 rfl rfl rfl ?_
        refine zv_getr hB zd165_64 rfl ?_
        refine zv_ald hB zd165_67 rfl rfl rfl ?_
        refine zv_getr hB zd165_68 rfl ?_
        refine zv_ald hB zd165_71 rfl rfl rfl ?_
        refine zv_getr hB zd165_72 rfl ?_
        refine zv_getr hB zd165_75 rfl ?_
        refine zv_ild hB zd165_78 rfl rfl ?_
        obtain ⟨c9, h⟩ := zi_if h
        refine zv_iald hB zd165_79 rfl rfl (zi_ix_ok c9).1 (zi_ix_ok c9).2 (fun _ _ => ?_)
        refine zv_ild hB zd165_80 rfl rfl ?_
        refine zv_ild hB zd165_81 rfl rfl ?_
        obtain ⟨r10, hr10, h⟩ := zi_bind h
        refine zv_cs hB (zv_emq (va2 := [.inl x2, .inl x3]) (F := [.inl f0, .inl f1, .inl r7.1, .inl f3, .inl r7.2.1, .inl f5, .inl r7.2.2.1, .inl f7, .inl r7.2.2.2.1, .inl f9, .inl r7.2.2.2.2.1, .inl f11, .inl r7.2.2.2.2.2.1, .inl f13, .inl r7.2.2.2.2.2.2.1, .inr 15, .inr 3, .inr 15, .inl r8.1, .inl f19, .inl f20, .inl f21, .inl f22, .inl f23, .inl f24, .inl f25, .inl f26, .inl f27]) (F' := [.inl f0, .inl f1, .inl r7.1, .inl f3, .inl r7.2.1, .inl f5, .inl r7.2.2.1, .inl f7, .inl r7.2.2.2.1, .inl f9, .inl r7.2.2.2.2.1, .inl f11, .inl r7.2.2.2.2.2.1, .inl f13, .inl r7.2.2.2.2.2.2.1, .inr 15, .inr 3, .inr 15, .inl r8.1, .inl f19, .inl f20, .inl f21, .inl f22, .inl f23, .inl f24, .inl f25, .inl f26, .inl f27]) (G := [g0, r7.2.2.2.2.2.2.2.1, g2, r7.2.2.2.2.2.2.2.2.1, g4, r7.2.2.2.2.2.2.2.2.2.1, g6, r7.2.2.2.2.2.2.2.2.2.2.1, g8, r7.2.2.2.2.2.2.2.2.2.2.2, r8.2, g11, g12, g13, g14, g15, g16, g17, g18, g19, g20]) (G' := [g0, r7.2.2.2.2.2.2.2.1, g2, r7.2.2.2.2.2.2.2.2.1, g4, r7.2.2.2.2.2.2.2.2.2.1, g6, r7.2.2.2.2.2.2.2.2.2.2.1, g8, r7.2.2.2.2.2.2.2.2.2.2.2, r8.2, g11, g12, g13, g14, g15, g16, g17, g18, g19, g20]) (ρ := []) (φ := []) (ψ := []) [none, none, none, none, none, none, none, none, none, none, none, none, none, none, none, none, none, none, none, none, none, none, none, none, none, none, none, none] [none, none, none, none, none, none, none, none, none, none, none, none, none, none, none, none, none, none, none, none, none] zyw_X_placeOf zyw_X_fastest zye_X_fastest (by decide +kernel) (zt_X_placeOf hr10) trivial trivial rfl rfl rfl rfl rfl rfl rfl) zd165_82 zxt24 rfl (by decide) (by decide) rfl ?_
        refine zv_ild hB zd165_85 rfl rfl ?_
        obtain ⟨r11, hr11, h⟩ := zi_bind h
        refine zv_cv hB (zv_emq (va2 := [.inr 17, .inr 14, .inr 1, .inl (g11 x1), .inl r10, .inl x4]) (F := [.inl f0, .inl f1, .inl r7.1, .inl f3, .inl r7.2.1, .inl f5, .inl r7.2.2.1, .inl f7, .inl r7.2.2.2.1, .inl f9, .inl r7.2.2.2.2.1, .inl f11, .inl r7.2.2.2.2.2.1, .inl f13, .inl r7.2.2.2.2.2.2.1, .inr 15, .inr 3, .inr 15, .inl r8.1, .inl f19, .inl f20, .inl f21, .inl f22, .inl f23, .inl f24, .inl f25, .inl f26, .inl f27]) (F' := [.inl f0, .inl f1, .inl r7.1, .inl f3, .inl r11.2.2.2.1, .inl f5, .inl r11.2.2.2.2.1, .inl f7, .inl r7.2.2.2.1, .inl f9, .inl r7.2.2.2.2.1, .inl f11, .inl r7.2.2.2.2.2.1, .inl f13, .inl r7.2.2.2.2.2.2.1, .inr 15, .inr 3, .inr 15, .inl r11.2.2.2.2.2.1, .inl r11.2.1, .inl r11.2.2.1, .inl f21, .inl r11.2.2.2.2.2.2.1, .inl f23, .inl r11.2.2.2.2.2.2.2.1, .inl f25, .inl r11.2.2.2.2.2.2.2.2.1, .inl r11.2.2.2.2.2.2.2.2.2.1]) (G := [g0, r7.2.2.2.2.2.2.2.1, g2, r7.2.2.2.2.2.2.2.2.1, g4, r7.2.2.2.2.2.2.2.2.2.1, g6, r7.2.2.2.2.2.2.2.2.2.2.1, g8, r7.2.2.2.2.2.2.2.2.2.2.2, r8.2, g11, g12, g13, g14, g15, g16, g17, g18, g19, g20]) (G' := [g0, r11.2.2.2.2.2.2.2.2.2.2.2.2.1, g2, r11.2.2.2.2.2.2.2.2.2.2.2.2.2.1, g4, r7.2.2.2.2.2.2.2.2.2.1, g6, r7.2.2.2.2.2.2.2.2.2.2.1, g8, r7.2.2.2.2.2.2.2.2.2.2.2, r11.2.2.2.2.2.2.2.2.2.2.2.2.2.2.2, g11, r11.2.2.2.2.2.2.2.2.2.2.1, r11.2.2.2.2.2.2.2.2.2.2.2.1, g14, g15, g16, g17, r11.2.2.2.2.2.2.2.2.2.2.2.2.2.2.1, g19, g20]) (ρ := [17, 14, 1, 3, 19, 15, 20, 5, 7, 9, 21, 22, 23, 24, 25, 26, 27, 11, 13, 16]) (φ := [16, 17, 2, 19, 20, 4, 6, 10, 12, 8, 21, 18, 22, 23, 24, 25, 26, 27]) (ψ := [12, 13, 1, 3, 5, 14, 15, 16, 17, 18, 19, 20, 7, 9, 10]) [none, none, some 2, none, some 5, none, some 6, none, some 9, none, some 7, none, some 8, none, none, none, some 0, some 1, some 11, some 3, some 4, some 10, some 12, some 13, some 14, some 15, some 16, some 17] [none, some 2, none, some 3, none, some 4, none, some 12, none, some 13, some 14, none, some 0, some 1, some 5, some 6, some 7, some 8, some 9, some 10, some 11] zyw_Pilot_findFastest zyw_X_fastest zye_X_fastest (by decide +kernel) (zt_Pilot_findFastest hr11) ⟨⟨_, rfl, fun _ => rfl⟩, ⟨_, rfl, fun _ => rfl⟩, ⟨_, rfl, fun _ => rfl⟩, ⟨_, rfl, fun _ => rfl⟩, ⟨_, rfl, fun _ => rfl⟩, ⟨_, rfl, fun _ => rfl⟩, ⟨_, rfl, fun _ => rfl⟩, ⟨_, rfl, fun _ => rfl⟩, ⟨_, rfl, fun _ => rfl⟩, ⟨_, rfl, fun _ => rfl⟩, ⟨_, rfl, fun _ => rfl⟩, ⟨_, rfl, fun _ => rfl⟩, ⟨_, rfl, fun _ => rfl⟩, ⟨_, rfl, fun _ => rfl⟩, ⟨_, rfl, fun _ => rfl⟩, ⟨_, rfl, fun _ => rfl⟩, ⟨_, rfl, fun _ => rfl⟩, ⟨_, rfl, fun _ => rfl⟩, trivial⟩ ⟨rfl, rfl, rfl, rfl, rfl, rfl, rfl, rfl, rfl, rfl, rfl, rfl, rfl, rfl, rfl, trivial⟩ rfl rfl rfl rfl rfl rfl rfl) zd165_87 zxt167 rfl (by decide) (by decide) rfl ?_
        refine zv_zne hB zd165_90 rfl (fun hc12 => ?_) (fun hc12 => ?_)
        · rw [if_neg hc12] at h
          refine zv_ild hB zd165_96 rfl rfl ?_
          refine zv_zne hB zd165_98 rfl (fun hc13 => ?_) (fun hc13 => ?_)
          · rw [if_neg hc13] at h
            refine zv_ald hB zd165_111 rfl rfl rfl ?_
            refine zv_getr hB zd165_112 rfl ?_
            refine zv_getf hB zd165_115 rfl rfl (fun _ _ => ?_)
            have hw := Option.some.inj h
            refine zv_wk hB (L' := [.inr 0, .inl x1, .inl x2, .inl x3, .inl x4, .inl x5]) (F' := [.inl f0, .inl f1, .inl r7.1, .inl f3, .inl r11.2.2.2.1, .inl f5, .inl r11.2.2.2.2.1, .inl f7, .inl r7.2.2.2.1, .inl f9, .inl r7.2.2.2.2.1, .inl f11, .inl r7.2.2.2.2.2.1, .inl f13, .inl r7.2.2.2.2.2.2.1, .inr 15, .inr 1000, .inr 1000, .inl r11.2.2.2.2.2.1, .inl r11.2.1, .inl r11.2.2.1, .inl f21, .inl r11.2.2.2.2.2.2.1, .inl f23, .inl r11.2.2.2.2.2.2.2.1, .inl f25, .inl r11.2.2.2.2.2.2.2.2.1, .inl r11.2.2.2.2.2.2.2.2.2.1]) ⟨fun _ => rfl, fun _ => rfl, fun _ => rfl, fun _ => rfl, fun _ => rfl, fun _ => rfl, trivial⟩ ⟨fun _ => rfl, fun _ => rfl, fun _ => rfl, fun _ => rfl, fun _ => rfl, fun _ => rfl, fun _ => rfl, fun _ => rfl, fun _ => rfl, fun _ => rfl, fun _ => rfl, fun _ => rfl, fun _ => rfl, fun _ => rfl, fun _ => rfl, fun _ => rfl, fun (h : zv_is (.inr 1000)) => (Nat.lt_irrefl 1000 h).elim, fun (h : zv_is (.inr 1000)) => (Nat.lt_irrefl 1000 h).elim, fun _ => rfl, fun _ => rfl, fun _ => rfl, fun _ => rfl, fun _ => rfl, fun _ => rfl, fun _ => rfl, fun _ => rfl, fun _ => rfl, fun _ => rfl, trivial⟩ ?_
            subst hw
            exact hret _ _ _ _ _ zd165_118 (by trivial) ⟨rfl, rfl, rfl⟩
          · rw [if_pos hc13] at h
            refine zv_ald hB zd165_101 rfl rfl rfl ?_
            refine zv_getr hB zd165_102 rfl ?_
            refine zv_getf hB zd165_105 rfl rfl (fun _ _ => ?_)
            refine zv_goto hB zd165_108 rfl ?_
            have hw := Option.some.inj h
            refine zv_wk hB (L' := [.inr 0, .inl x1, .inl x2, .inl x3, .inl x4, .inl x5]) (F' := [.inl f0, .inl f1, .inl r7.1, .inl f3, .inl r11.2.2.2.1, .inl f5, .inl r11.2.2.2.2.1, .inl f7, .inl r7.2.2.2.1, .inl f9, .inl r7.2.2.2.2.1, .inl f11, .inl r7.2.2.2.2.2.1, .inl f13, .inl r7.2.2.2.2.2.2.1, .inr 15, .inr 1000, .inr 1000, .inl r11.2.2.2.2.2.1, .inl r11.2.1, .inl r11.2.2.1, .inl f21, .inl r11.2.2.2.2.2.2.1, .inl f23, .inl r11.2.2.2.2.2.2.2.1, .inl f25, .inl r11.2.2.2.2.2.2.2.2.1, .inl r11.2.2.2.2.2.2.2.2.2.1]) ⟨fun _ => rfl, fun _ => rfl, fun _ => rfl, fun _ => rfl, fun _ => rfl, fun _ => rfl, trivial⟩ ⟨fun _ => rfl, fun _ => rfl, fun _ => rfl, fun _ => rfl, fun _ => rfl, fun _ => rfl, fun _ => rfl, fun _ => rfl, fun _ => rfl, fun _ => rfl, fun _ => rfl, fun _ => rfl, fun _ => rfl, fun _ => rfl, fun _ => rfl, fun _ => rfl, fun (h : zv_is (.inr 1000)) => (Nat.lt_irrefl 1000 h).elim, fun (h : zv_is (.inr 1000)) => (Nat.lt_irrefl 1000 h).elim, fun _ => rfl, fun _ => rfl, fun _ => rfl, fun _ => rfl, fun _ => rfl, fun _ => rfl, fun _ => rfl, fun _ => rfl, fun _ => rfl, fun _ => rfl, trivial⟩ ?_
            subst hw
            exact hret _ _ _ _ _ zd165_118 (by trivial) ⟨rfl, rfl, rfl⟩
        · rw [if_pos hc12] at h
          refine zv_con hB zd165_93 rfl ?_
          have hw := Option.some.inj h
          refine zv_wk hB (L' := [.inr 0, .inl x1, .inl x2, .inl x3, .inl x4, .inl x5]) (F' := [.inl f0, .inl f1, .inl r7.1, .inl f3, .inl r11.2.2.2.1, .inl f5, .inl r11.2.2.2.2.1, .inl f7, .inl r7.2.2.2.1, .inl f9, .inl r7.2.2.2.2.1, .inl f11, .inl r7.2.2.2.2.2.1, .inl f13, .inl r7.2.2.2.2.2.2.1, .inr 15, .inr 1000, .inr 1000, .inl r11.2.2.2.2.2.1, .inl r11.2.1, .inl r11.2.2.1, .inl f21, .inl r11.2.2.2.2.2.2.1, .inl f23, .inl r11.2.2.2.2.2.2.2.1, .inl f25, .inl r11.2.2.2.2.2.2.2.2.1, .inl r11.2.2.2.2.2.2.2.2.2.1]) ⟨fun _ => rfl, fun _ => rfl, fun _ => rfl, fun _ => rfl, fun _ => rfl, fun _ => rfl, trivial⟩ ⟨fun _ => rfl, fun _ => rfl, fun _ => rfl, fun _ => rfl, fun _ => rfl, fun _ => rfl, fun _ => rfl, fun _ => rfl, fun _ => rfl, fun _ => rfl, fun _ => rfl, fun _ => rfl, fun _ => rfl, fun _ => rfl, fun _ => rfl, fun _ => rfl, fun (h : zv_is (.inr 1000)) => (Nat.lt_irrefl 1000 h).elim, fun (h : zv_is (.inr 1000)) => (Nat.lt_irrefl 1000 h).elim, fun _ => rfl, fun _ => rfl, fun _ => rfl, fun _ => rfl, fun _ => rfl, fun _ => rfl, fun _ => rfl, fun _ => rfl, fun _ => rfl, fun _ => rfl, trivial⟩ ?_
          subst hw
          exact hret _ _ _ _ _ zd165_95 (by trivial) ⟨rfl, rfl, rfl⟩
      · rw [if_pos hc6] at h
        refine zv_con hB zd165_31 rfl ?_
        have hw := Option.some.inj h
        subst hw
        exact hret _ _ _ _ _ zd165_32 (by trivial) ⟨rfl, rfl, rfl⟩
