/-! Methods as functions, and that they do what these do. -/
/-! M_readsCondition ()Z -/
-- names: 0 StarTalesModel('arg', 0), 1 (1, 220)(0, 12, 3), 2 (0, 220)(0, 12, 15), 3 (0, 220)(0, 12, 14)
-- fields: f0 = 0.place0_, f1 = 0.length0_, f2 = 0.open_, f3 = 0.waiting_, f4 = 0.fault_, f5 = 0.codeMany_, f6 = 0.number0_; arrays: g0 = 1, g1 = 2, g2 = 3; out: [('ret', None), ('f', 0), ('f', 2), ('f', 3), ('f', 4), ('f', 5), ('f', 6), ('g', 1), ('g', 2)]
abbrev zy_M_readsCondition : zNL := (4, [(0, 12)], [(0, 12, 5, 0), (0, 12, 6, 1), (0, 12, 8, 2), (0, 12, 10, 3), (0, 12, 7, 4), (0, 12, 9, 5), (0, 12, 12, 6)], [(0, 12, 3, 1), (0, 12, 15, 2), (0, 12, 14, 3)], [(1, 1, 220, 0), (2, 0, 220, 1), (3, 0, 220, 2)])
theorem zyw_M_readsCondition : zv_wf zy_M_readsCondition = true := by decide +kernel
theorem zye_M_readsCondition : zv_ek2 zy_M_readsCondition = true := by decide +kernel
def zf_M_readsCondition_l1_b (f1 : Int) (f4 : Int) (f6 : Int) (g0 : (Int → Int)) (g1 : (Int → Int)) (rec : Int → Int → Int → Int → (Int → Int) → Option (((Int × Int × Int × Int × (Int → Int)) ⊕ (Int × Int × Int × Int × Int × Int × Int × (Int → Int) × (Int → Int))))) (f0 : Int) (f2 : Int) (f3 : Int) (f5 : Int) (g2 : (Int → Int)) : Option (((Int × Int × Int × Int × (Int → Int)) ⊕ (Int × Int × Int × Int × Int × Int × Int × (Int → Int) × (Int → Int)))) := (zf_M_here f0 f1 g0).bind fun r17 => (if r17 = 41 then ((zf_M_lands 1 f3 f5 g1 g2).bind fun r19 => (if (zi_w (r19.1 - 1)) = 0 then (some (.inr (1, (zi_w (f0 + 1)), (zi_w (f2 - 1)), (zi_w (r19.1 - 1)), f4, f5, f6, g1, r19.2))) else ((zf_M_endsPiece (zi_w (r19.1 - 1)) f5 (zi_w (f2 - 1)) g1 r19.2).bind fun r21 => (rec (zi_w (f0 + 1)) r21.2.2.1 r21.1 r21.2.1 r21.2.2.2)))) else (some (.inl (f0, f2, f3, f5, g2))))
def zf_M_readsCondition_l1 (f1 : Int) (f4 : Int) (f6 : Int) (g0 : (Int → Int)) (g1 : (Int → Int)) : Nat → Int → Int → Int → Int → (Int → Int) → Option (((Int × Int × Int × Int × (Int → Int)) ⊕ (Int × Int × Int × Int × Int × Int × Int × (Int → Int) × (Int → Int))))
  | 0, _, _, _, _, _ => none
  | n + 1, f0, f2, f3, f5, g2 => zf_M_readsCondition_l1_b f1 f4 f6 g0 g1 (zf_M_readsCondition_l1 f1 f4 f6 g0 g1 n) f0 f2 f3 f5 g2
def zf_M_readsCondition_l0_b (f1 : Int) (g0 : (Int → Int)) (rec : Int → Int → Int → Int → Int → Int → (Int → Int) → (Int → Int) → Option (((Int × Int × Int × Int × Int × Int × (Int → Int) × (Int → Int)) ⊕ (Int × Int × Int × Int × Int × Int × Int × (Int → Int) × (Int → Int))))) (f0 : Int) (f2 : Int) (f3 : Int) (f4 : Int) (f5 : Int) (f6 : Int) (g1 : (Int → Int)) (g2 : (Int → Int)) : Option (((Int × Int × Int × Int × Int × Int × (Int → Int) × (Int → Int)) ⊕ (Int × Int × Int × Int × Int × Int × Int × (Int → Int) × (Int → Int)))) := (zf_M_here f0 f1 g0).bind fun r5 => (if r5 = 33 then ((zf_M_here f0 f1 g0).bind fun r7 => (if r7 = 33 then ((zf_M_opens 10 f2 f3 f0 f4 g1).bind fun r11 => (if r11.1 = 0 then (some (.inr (0, r11.2.2.2.1, r11.2.1, r11.2.2.1, r11.2.2.2.2.1, f5, f6, r11.2.2.2.2.2, g2))) else (rec r11.2.2.2.1 r11.2.1 r11.2.2.1 r11.2.2.2.2.1 f5 f6 r11.2.2.2.2.2 g2))) else ((zf_M_opens 13 f2 f3 f0 f4 g1).bind fun r9 => (if r9.1 = 0 then (some (.inr (0, r9.2.2.2.1, r9.2.1, r9.2.2.1, r9.2.2.2.2.1, f5, f6, r9.2.2.2.2.2, g2))) else (rec r9.2.2.2.1 r9.2.1 r9.2.2.1 r9.2.2.2.2.1 f5 f6 r9.2.2.2.2.2 g2))))) else ((zf_M_here f0 f1 g0).bind fun r13 => (if r13 = 40 then ((zf_M_here f0 f1 g0).bind fun r53 => (if r53 = 33 then ((zf_M_opens 10 f2 f3 f0 f4 g1).bind fun r57 => (if r57.1 = 0 then (some (.inr (0, r57.2.2.2.1, r57.2.1, r57.2.2.1, r57.2.2.2.2.1, f5, f6, r57.2.2.2.2.2, g2))) else (rec r57.2.2.2.1 r57.2.1 r57.2.2.1 r57.2.2.2.2.1 f5 f6 r57.2.2.2.2.2 g2))) else ((zf_M_opens 13 f2 f3 f0 f4 g1).bind fun r55 => (if r55.1 = 0 then (some (.inr (0, r55.2.2.2.1, r55.2.1, r55.2.2.1, r55.2.2.2.2.1, f5, f6, r55.2.2.2.2.2, g2))) else (rec r55.2.2.2.1 r55.2.1 r55.2.2.1 r55.2.2.2.2.1 f5 f6 r55.2.2.2.2.2 g2))))) else ((zf_M_readsCompared f3 f0 f1 f2 f4 f5 f6 g0 g1 g2).bind fun r15 => (if r15.1 = 0 then (some (.inr (0, r15.2.2.1, r15.2.2.2.1, r15.2.1, r15.2.2.2.2.1, r15.2.2.2.2.2.1, r15.2.2.2.2.2.2.1, r15.2.2.2.2.2.2.2.1, r15.2.2.2.2.2.2.2.2))) else ((zf_M_readsCondition_l1 f1 r15.2.2.2.2.1 r15.2.2.2.2.2.2.1 g0 r15.2.2.2.2.2.2.2.1 zi_fu r15.2.2.1 r15.2.2.2.1 r15.2.1 r15.2.2.2.2.2.1 r15.2.2.2.2.2.2.2.2).bind fun q22 => Sum.elim (fun e23 => ((zf_M_here e23.1 f1 g0).bind fun r24 => (if r24 = 38 then ((zf_M_here e23.1 f1 g0).bind fun r26 => (if r26 = 124 then ((zf_M_lands 1 e23.2.2.1 e23.2.2.2.1 r15.2.2.2.2.2.2.2.1 e23.2.2.2.2).bind fun r33 => ((zf_M_here e23.1 f1 g0).bind fun r34 => (if r34 = 38 then ((zf_M_jumps 11 r33.1 e23.2.2.2.1 e23.1 r15.2.2.2.2.2.2.2.1 r33.2).bind fun r37 => (rec r37.2.2.1 e23.2.1 r37.1 r15.2.2.2.2.1 r37.2.1 r15.2.2.2.2.2.2.1 r37.2.2.2.1 r37.2.2.2.2)) else ((zf_M_jumps 12 r33.1 e23.2.2.2.1 e23.1 r15.2.2.2.2.2.2.2.1 r33.2).bind fun r36 => (rec r36.2.2.1 e23.2.1 r36.1 r15.2.2.2.2.1 r36.2.1 r15.2.2.2.2.2.2.1 r36.2.2.2.1 r36.2.2.2.2))))) else ((zf_M_lands 0 e23.2.2.1 e23.2.2.2.1 r15.2.2.2.2.2.2.2.1 e23.2.2.2.2).bind fun r28 => ((zf_M_here e23.1 f1 g0).bind fun r29 => (if r29 = 38 then ((zf_M_jumps 11 r28.1 e23.2.2.2.1 e23.1 r15.2.2.2.2.2.2.2.1 r28.2).bind fun r32 => (rec r32.2.2.1 e23.2.1 r32.1 r15.2.2.2.2.1 r32.2.1 r15.2.2.2.2.2.2.1 r32.2.2.2.1 r32.2.2.2.2)) else ((zf_M_jumps 12 r28.1 e23.2.2.2.1 e23.1 r15.2.2.2.2.2.2.2.1 r28.2).bind fun r31 => (rec r31.2.2.1 e23.2.1 r31.1 r15.2.2.2.2.1 r31.2.1 r15.2.2.2.2.2.2.1 r31.2.2.2.1 r31.2.2.2.2))))))) else ((zf_M_here e23.1 f1 g0).bind fun r38 => (if r38 = 124 then ((zf_M_here e23.1 f1 g0).bind fun r40 => (if r40 = 124 then ((zf_M_lands 1 e23.2.2.1 e23.2.2.2.1 r15.2.2.2.2.2.2.2.1 e23.2.2.2.2).bind fun r47 => ((zf_M_here e23.1 f1 g0).bind fun r48 => (if r48 = 38 then ((zf_M_jumps 11 r47.1 e23.2.2.2.1 e23.1 r15.2.2.2.2.2.2.2.1 r47.2).bind fun r51 => (rec r51.2.2.1 e23.2.1 r51.1 r15.2.2.2.2.1 r51.2.1 r15.2.2.2.2.2.2.1 r51.2.2.2.1 r51.2.2.2.2)) else ((zf_M_jumps 12 r47.1 e23.2.2.2.1 e23.1 r15.2.2.2.2.2.2.2.1 r47.2).bind fun r50 => (rec r50.2.2.1 e23.2.1 r50.1 r15.2.2.2.2.1 r50.2.1 r15.2.2.2.2.2.2.1 r50.2.2.2.1 r50.2.2.2.2))))) else ((zf_M_lands 0 e23.2.2.1 e23.2.2.2.1 r15.2.2.2.2.2.2.2.1 e23.2.2.2.2).bind fun r42 => ((zf_M_here e23.1 f1 g0).bind fun r43 => (if r43 = 38 then ((zf_M_jumps 11 r42.1 e23.2.2.2.1 e23.1 r15.2.2.2.2.2.2.2.1 r42.2).bind fun r46 => (rec r46.2.2.1 e23.2.1 r46.1 r15.2.2.2.2.1 r46.2.1 r15.2.2.2.2.2.2.1 r46.2.2.2.1 r46.2.2.2.2)) else ((zf_M_jumps 12 r42.1 e23.2.2.2.1 e23.1 r15.2.2.2.2.2.2.2.1 r42.2).bind fun r45 => (rec r45.2.2.1 e23.2.1 r45.1 r15.2.2.2.2.1 r45.2.1 r15.2.2.2.2.2.2.1 r45.2.2.2.1 r45.2.2.2.2))))))) else (some (.inl (e23.1, e23.2.1, e23.2.2.1, r15.2.2.2.2.1, e23.2.2.2.1, r15.2.2.2.2.2.2.1, r15.2.2.2.2.2.2.2.1, e23.2.2.2.2)))))))) (fun w52 => some (.inr w52)) q22))))))
def zf_M_readsCondition_l0 (f1 : Int) (g0 : (Int → Int)) : Nat → Int → Int → Int → Int → Int → Int → (Int → Int) → (Int → Int) → Option (((Int × Int × Int × Int × Int × Int × (Int → Int) × (Int → Int)) ⊕ (Int × Int × Int × Int × Int × Int × Int × (Int → Int) × (Int → Int))))
  | 0, _, _, _, _, _, _, _, _ => none
  | n + 1, f0, f2, f3, f4, f5, f6, g1, g2 => zf_M_readsCondition_l0_b f1 g0 (zf_M_readsCondition_l0 f1 g0 n) f0 f2 f3 f4 f5 f6 g1 g2
def zf_M_readsCondition (f0 : Int) (f1 : Int) (f2 : Int) (f3 : Int) (f4 : Int) (f5 : Int) (f6 : Int) (g0 : (Int → Int)) (g1 : (Int → Int)) (g2 : (Int → Int)) : Option (Int × Int × Int × Int × Int × Int × Int × (Int → Int) × (Int → Int)) := (zf_M_here f0 f1 g0).bind fun r1 => (if r1 = 40 then ((zf_M_opens 13 0 0 f0 f4 g1).bind fun r3 => (if r3.1 = 0 then (some (0, r3.2.2.2.1, r3.2.1, r3.2.2.1, r3.2.2.2.2.1, f5, f6, r3.2.2.2.2.2, g2)) else ((zf_M_readsCondition_l0 f1 g0 zi_fu r3.2.2.2.1 r3.2.1 r3.2.2.1 r3.2.2.2.2.1 f5 f6 r3.2.2.2.2.2 g2).bind fun q59 => Sum.elim (fun e60 => ((zf_M_wrongAt 1 e60.1 e60.2.2.2.1).bind fun r61 => (cond (zi_bo r61.1) (some (r61.1, e60.1, e60.2.1, e60.2.2.1, r61.2, e60.2.2.2.2.1, e60.2.2.2.2.2.1, e60.2.2.2.2.2.2.1, e60.2.2.2.2.2.2.2)) none))) (fun w63 => some w63) q59))) else ((zf_M_wrongAt 1 f0 f4).bind fun r64 => (cond (zi_bo r64.1) (some (r64.1, f0, f2, f3, r64.2, f5, f6, g1, g2)) none)))
theorem zd231_0 : decode zxm231.2.1 0 = .ok (.aload_n 0, 1) := by decide +kernel
theorem zd231_1 : decode zxm231.2.1 1 = .ok (.invokevirtual 182, 3) := by decide +kernel
theorem zd231_4 : decode zxm231.2.1 4 = .ok (.bipush 40, 2) := by decide +kernel
theorem zd231_6 : decode zxm231.2.1 6 = .ok (.if_icmp .eq 13, 3) := by decide +kernel
theorem zd231_9 : decode zxm231.2.1 9 = .ok (.aload_n 0, 1) := by decide +kernel
theorem zd231_10 : decode zxm231.2.1 10 = .ok (.iconst 1, 1) := by decide +kernel
theorem zd231_11 : decode zxm231.2.1 11 = .ok (.aload_n 0, 1) := by decide +kernel
theorem zd231_12 : decode zxm231.2.1 12 = .ok (.getfield 176, 3) := by decide +kernel
theorem zd231_15 : decode zxm231.2.1 15 = .ok (.invokevirtual 189, 3) := by decide +kernel
theorem zd231_18 : decode zxm231.2.1 18 = .ok (.ireturn, 1) := by decide +kernel
theorem zd231_19 : decode zxm231.2.1 19 = .ok (.aload_n 0, 1) := by decide +kernel
theorem zd231_20 : decode zxm231.2.1 20 = .ok (.iconst 0, 1) := by decide +kernel
theorem zd231_21 : decode zxm231.2.1 21 = .ok (.putfield 203, 3) := by decide +kernel
theorem zd231_24 : decode zxm231.2.1 24 = .ok (.aload_n 0, 1) := by decide +kernel
theorem zd231_25 : decode zxm231.2.1 25 = .ok (.iconst 0, 1) := by decide +kernel
theorem zd231_26 : decode zxm231.2.1 26 = .ok (.putfield 206, 3) := by decide +kernel
theorem zd231_29 : decode zxm231.2.1 29 = .ok (.aload_n 0, 1) := by decide +kernel
theorem zd231_30 : decode zxm231.2.1 30 = .ok (.bipush 13, 2) := by decide +kernel
theorem zd231_32 : decode zxm231.2.1 32 = .ok (.invokevirtual 216, 3) := by decide +kernel
theorem zd231_35 : decode zxm231.2.1 35 = .ok (.ifCond .ne 5, 3) := by decide +kernel
theorem zd231_38 : decode zxm231.2.1 38 = .ok (.iconst 0, 1) := by decide +kernel
theorem zd231_39 : decode zxm231.2.1 39 = .ok (.ireturn, 1) := by decide +kernel
theorem zd231_40 : decode zxm231.2.1 40 = .ok (.aload_n 0, 1) := by decide +kernel
theorem zd231_41 : decode zxm231.2.1 41 = .ok (.invokevirtual 182, 3) := by decide +kernel
theorem zd231_44 : decode zxm231.2.1 44 = .ok (.bipush 33, 2) := by decide +kernel
theorem zd231_46 : decode zxm231.2.1 46 = .ok (.if_icmp .eq 12, 3) := by decide +kernel
theorem zd231_49 : decode zxm231.2.1 49 = .ok (.aload_n 0, 1) := by decide +kernel
theorem zd231_50 : decode zxm231.2.1 50 = .ok (.invokevirtual 182, 3) := by decide +kernel
theorem zd231_53 : decode zxm231.2.1 53 = .ok (.bipush 40, 2) := by decide +kernel
theorem zd231_55 : decode zxm231.2.1 55 = .ok (.if_icmp .ne 28, 3) := by decide +kernel
theorem zd231_58 : decode zxm231.2.1 58 = .ok (.aload_n 0, 1) := by decide +kernel
theorem zd231_59 : decode zxm231.2.1 59 = .ok (.aload_n 0, 1) := by decide +kernel
theorem zd231_60 : decode zxm231.2.1 60 = .ok (.invokevirtual 182, 3) := by decide +kernel
theorem zd231_63 : decode zxm231.2.1 63 = .ok (.bipush 33, 2) := by decide +kernel
theorem zd231_65 : decode zxm231.2.1 65 = .ok (.if_icmp .ne 8, 3) := by decide +kernel
theorem zd231_68 : decode zxm231.2.1 68 = .ok (.bipush 10, 2) := by decide +kernel
theorem zd231_70 : decode zxm231.2.1 70 = .ok (.goto 5, 3) := by decide +kernel
theorem zd231_73 : decode zxm231.2.1 73 = .ok (.bipush 13, 2) := by decide +kernel
theorem zd231_75 : decode zxm231.2.1 75 = .ok (.invokevirtual 216, 3) := by decide +kernel
theorem zd231_78 : decode zxm231.2.1 78 = .ok (.ifCond .ne (-38), 3) := by decide +kernel
theorem zd231_81 : decode zxm231.2.1 81 = .ok (.iconst 0, 1) := by decide +kernel
theorem zd231_82 : decode zxm231.2.1 82 = .ok (.ireturn, 1) := by decide +kernel
theorem zd231_83 : decode zxm231.2.1 83 = .ok (.aload_n 0, 1) := by decide +kernel
theorem zd231_84 : decode zxm231.2.1 84 = .ok (.invokevirtual 244, 3) := by decide +kernel
theorem zd231_87 : decode zxm231.2.1 87 = .ok (.ifCond .ne 5, 3) := by decide +kernel
theorem zd231_90 : decode zxm231.2.1 90 = .ok (.iconst 0, 1) := by decide +kernel
theorem zd231_91 : decode zxm231.2.1 91 = .ok (.ireturn, 1) := by decide +kernel
theorem zd231_92 : decode zxm231.2.1 92 = .ok (.aload_n 0, 1) := by decide +kernel
theorem zd231_93 : decode zxm231.2.1 93 = .ok (.invokevirtual 182, 3) := by decide +kernel
theorem zd231_96 : decode zxm231.2.1 96 = .ok (.bipush 41, 2) := by decide +kernel
theorem zd231_98 : decode zxm231.2.1 98 = .ok (.if_icmp .ne 54, 3) := by decide +kernel
theorem zd231_101 : decode zxm231.2.1 101 = .ok (.aload_n 0, 1) := by decide +kernel
theorem zd231_102 : decode zxm231.2.1 102 = .ok (.iconst 1, 1) := by decide +kernel
theorem zd231_103 : decode zxm231.2.1 103 = .ok (.invokevirtual 247, 3) := by decide +kernel
theorem zd231_106 : decode zxm231.2.1 106 = .ok (.aload_n 0, 1) := by decide +kernel
theorem zd231_107 : decode zxm231.2.1 107 = .ok (.aload_n 0, 1) := by decide +kernel
theorem zd231_108 : decode zxm231.2.1 108 = .ok (.getfield 206, 3) := by decide +kernel
theorem zd231_111 : decode zxm231.2.1 111 = .ok (.iconst 1, 1) := by decide +kernel
theorem zd231_112 : decode zxm231.2.1 112 = .ok (.isub, 1) := by decide +kernel
theorem zd231_113 : decode zxm231.2.1 113 = .ok (.putfield 206, 3) := by decide +kernel
theorem zd231_116 : decode zxm231.2.1 116 = .ok (.aload_n 0, 1) := by decide +kernel
theorem zd231_117 : decode zxm231.2.1 117 = .ok (.aload_n 0, 1) := by decide +kernel
theorem zd231_118 : decode zxm231.2.1 118 = .ok (.getfield 203, 3) := by decide +kernel
theorem zd231_121 : decode zxm231.2.1 121 = .ok (.iconst 1, 1) := by decide +kernel
theorem zd231_122 : decode zxm231.2.1 122 = .ok (.isub, 1) := by decide +kernel
theorem zd231_123 : decode zxm231.2.1 123 = .ok (.putfield 203, 3) := by decide +kernel
theorem zd231_126 : decode zxm231.2.1 126 = .ok (.aload_n 0, 1) := by decide +kernel
theorem zd231_127 : decode zxm231.2.1 127 = .ok (.aload_n 0, 1) := by decide +kernel
theorem zd231_128 : decode zxm231.2.1 128 = .ok (.getfield 176, 3) := by decide +kernel
theorem zd231_131 : decode zxm231.2.1 131 = .ok (.iconst 1, 1) := by decide +kernel
theorem zd231_132 : decode zxm231.2.1 132 = .ok (.iadd, 1) := by decide +kernel
theorem zd231_133 : decode zxm231.2.1 133 = .ok (.putfield 176, 3) := by decide +kernel
theorem zd231_136 : decode zxm231.2.1 136 = .ok (.aload_n 0, 1) := by decide +kernel
theorem zd231_137 : decode zxm231.2.1 137 = .ok (.getfield 206, 3) := by decide +kernel
theorem zd231_140 : decode zxm231.2.1 140 = .ok (.ifCond .ne 5, 3) := by decide +kernel
theorem zd231_143 : decode zxm231.2.1 143 = .ok (.iconst 1, 1) := by decide +kernel
theorem zd231_144 : decode zxm231.2.1 144 = .ok (.ireturn, 1) := by decide +kernel
theorem zd231_145 : decode zxm231.2.1 145 = .ok (.aload_n 0, 1) := by decide +kernel
theorem zd231_146 : decode zxm231.2.1 146 = .ok (.invokevirtual 241, 3) := by decide +kernel
theorem zd231_149 : decode zxm231.2.1 149 = .ok (.goto (-57), 3) := by decide +kernel
theorem zd231_152 : decode zxm231.2.1 152 = .ok (.aload_n 0, 1) := by decide +kernel
theorem zd231_153 : decode zxm231.2.1 153 = .ok (.invokevirtual 182, 3) := by decide +kernel
theorem zd231_156 : decode zxm231.2.1 156 = .ok (.bipush 38, 2) := by decide +kernel
theorem zd231_158 : decode zxm231.2.1 158 = .ok (.if_icmp .eq 22, 3) := by decide +kernel
theorem zd231_161 : decode zxm231.2.1 161 = .ok (.aload_n 0, 1) := by decide +kernel
theorem zd231_162 : decode zxm231.2.1 162 = .ok (.invokevirtual 182, 3) := by decide +kernel
theorem zd231_165 : decode zxm231.2.1 165 = .ok (.bipush 124, 2) := by decide +kernel
theorem zd231_167 : decode zxm231.2.1 167 = .ok (.if_icmp .eq 13, 3) := by decide +kernel
theorem zd231_170 : decode zxm231.2.1 170 = .ok (.aload_n 0, 1) := by decide +kernel
theorem zd231_171 : decode zxm231.2.1 171 = .ok (.iconst 1, 1) := by decide +kernel
theorem zd231_172 : decode zxm231.2.1 172 = .ok (.aload_n 0, 1) := by decide +kernel
theorem zd231_173 : decode zxm231.2.1 173 = .ok (.getfield 176, 3) := by decide +kernel
theorem zd231_176 : decode zxm231.2.1 176 = .ok (.invokevirtual 189, 3) := by decide +kernel
theorem zd231_179 : decode zxm231.2.1 179 = .ok (.ireturn, 1) := by decide +kernel
theorem zd231_180 : decode zxm231.2.1 180 = .ok (.aload_n 0, 1) := by decide +kernel
theorem zd231_181 : decode zxm231.2.1 181 = .ok (.aload_n 0, 1) := by decide +kernel
theorem zd231_182 : decode zxm231.2.1 182 = .ok (.invokevirtual 182, 3) := by decide +kernel
theorem zd231_185 : decode zxm231.2.1 185 = .ok (.bipush 124, 2) := by decide +kernel
theorem zd231_187 : decode zxm231.2.1 187 = .ok (.if_icmp .ne 7, 3) := by decide +kernel
theorem zd231_190 : decode zxm231.2.1 190 = .ok (.iconst 1, 1) := by decide +kernel
theorem zd231_191 : decode zxm231.2.1 191 = .ok (.goto 4, 3) := by decide +kernel
theorem zd231_194 : decode zxm231.2.1 194 = .ok (.iconst 0, 1) := by decide +kernel
theorem zd231_195 : decode zxm231.2.1 195 = .ok (.invokevirtual 247, 3) := by decide +kernel
theorem zd231_198 : decode zxm231.2.1 198 = .ok (.aload_n 0, 1) := by decide +kernel
theorem zd231_199 : decode zxm231.2.1 199 = .ok (.aload_n 0, 1) := by decide +kernel
theorem zd231_200 : decode zxm231.2.1 200 = .ok (.invokevirtual 182, 3) := by decide +kernel
theorem zd231_203 : decode zxm231.2.1 203 = .ok (.bipush 38, 2) := by decide +kernel
theorem zd231_205 : decode zxm231.2.1 205 = .ok (.if_icmp .ne 8, 3) := by decide +kernel
theorem zd231_208 : decode zxm231.2.1 208 = .ok (.bipush 11, 2) := by decide +kernel
theorem zd231_210 : decode zxm231.2.1 210 = .ok (.goto 5, 3) := by decide +kernel
theorem zd231_213 : decode zxm231.2.1 213 = .ok (.bipush 12, 2) := by decide +kernel
theorem zd231_215 : decode zxm231.2.1 215 = .ok (.invokevirtual 250, 3) := by decide +kernel
theorem zd231_218 : decode zxm231.2.1 218 = .ok (.goto (-178), 3) := by decide +kernel
theorem zt_M_readsCondition {f0 : Int} {f1 : Int} {f2 : Int} {f3 : Int} {f4 : Int} {f5 : Int} {f6 : Int} {g0 : (Int → Int)} {g1 : (Int → Int)} {g2 : (Int → Int)} {o : Int × Int × Int × Int × Int × Int × Int × (Int → Int) × (Int → Int)} (h : zf_M_readsCondition f0 f1 f2 f3 f4 f5 f6 g0 g1 g2 = some o) : zv_Fn z_TB z_cl z_KX zy_M_readsCondition zxm231 (6, 360) [.inr 0] [.inl f0, .inl f1, .inl f2, .inl f3, .inl f4, .inl f5, .inl f6] [g0, g1, g2] (some o.1) [.inl o.2.1, .inl f1, .inl o.2.2.1, .inl o.2.2.2.1, .inl o.2.2.2.2.1, .inl o.2.2.2.2.2.1, .inl o.2.2.2.2.2.2.1] [g0, o.2.2.2.2.2.2.2.1, o.2.2.2.2.2.2.2.2] := zv_meth (K := (z_KF13, z_KC13, z_KL13, z_KT13, [], [], [], none)) (FT := z_FT) (MT := z_MT) (n := 1) zxp231 (z_ks13 _ (fun _ h => List.mem_cons_of_mem _ h) _ _ _ _ (fun j r h _ => by cases h)) (fun _ _ => zs_KX_p) zyw_M_readsCondition (fun va F G h => by obtain ⟨rfl, _⟩ := h; rfl) (fun va F G h => by obtain ⟨rfl, _⟩ := h; rfl) rfl fun good va F G hB hret hvret hP => by
  obtain ⟨rfl, rfl, rfl⟩ := hP
  have l1 : ∀ (n : Nat) (f0 : Int) (f2 : Int) (f3 : Int) (f4 : Int) (f5 : Int) (f6 : Int) (g1 : (Int → Int)) (g2 : (Int → Int)) (q : ((Int × Int × Int × Int × (Int → Int)) ⊕ (Int × Int × Int × Int × Int × Int × Int × (Int → Int) × (Int → Int)))), zf_M_readsCondition_l1 f1 f4 f6 g0 g1 n f0 f2 f3 f5 g2 = some q → (Sum.elim (fun e : Int × Int × Int × Int × (Int → Int) => good 152 [.inr 0] [] [.inl e.1, .inl f1, .inl e.2.1, .inl e.2.2.1, .inl f4, .inl e.2.2.2.1, .inl f6] [g0, g1, e.2.2.2.2]) (fun w : Int × Int × Int × Int × Int × Int × Int × (Int → Int) × (Int → Int) => w = o) q) → good 92 [.inr 0] [] [.inl f0, .inl f1, .inl f2, .inl f3, .inl f4, .inl f5, .inl f6] [g0, g1, g2] := by
    intro n
    induction n with
    | zero => intro f0 f2 f3 f4 f5 f6 g1 g2 q h; exact absurd (show none = some q from h) (fun h => by cases h)
    | succ n ih =>
      intro f0 f2 f3 f4 f5 f6 g1 g2 q h hK
      replace h : zf_M_readsCondition_l1_b f1 f4 f6 g0 g1 (zf_M_readsCondition_l1 f1 f4 f6 g0 g1 n) f0 f2 f3 f5 g2 = some q := h
      unfold zf_M_readsCondition_l1_b at h
      refine zv_ald hB zd231_92 rfl rfl rfl ?_
      obtain ⟨r17, hr17, h⟩ := zi_bind h
      refine zv_cv hB (zv_emq (va2 := [.inr 0]) (F := [.inl f0, .inl f1, .inl f2, .inl f3, .inl f4, .inl f5, .inl f6]) (F' := [.inl f0, .inl f1, .inl f2, .inl f3, .inl f4, .inl f5, .inl f6]) (G := [g0, g1, g2]) (G' := [g0, g1, g2]) (ρ := [0, 1]) (φ := [0, 1]) (ψ := [0]) [some 0, some 1, none, none, none, none, none] [some 0, none, none] zyw_M_here zyw_M_readsCondition zye_M_readsCondition (by decide +kernel) (zt_M_here hr17) ⟨⟨_, rfl, fun _ => rfl⟩, ⟨_, rfl, fun _ => rfl⟩, trivial⟩ ⟨rfl, trivial⟩ rfl rfl rfl rfl rfl rfl rfl) zd231_93 zxt217 rfl (by decide) (by decide) rfl ?_
      refine zv_con hB zd231_96 rfl ?_
      refine zv_cne hB zd231_98 rfl (fun hc18 => ?_) (fun hc18 => ?_)
      · rw [if_neg hc18] at h
        have hq := Option.some.inj h
        subst hq
        exact hK
      · rw [if_pos hc18] at h
        refine zv_ald hB zd231_101 rfl rfl rfl ?_
        refine zv_con hB zd231_102 rfl ?_
        obtain ⟨r19, hr19, h⟩ := zi_bind h
        refine zv_cv hB (zv_emq (va2 := [.inr 0, .inl 1]) (F := [.inl f0, .inl f1, .inl f2, .inl f3, .inl f4, .inl f5, .inl f6]) (F' := [.inl f0, .inl f1, .inl f2, .inl r19.1, .inl f4, .inl f5, .inl f6]) (G := [g0, g1, g2]) (G' := [g0, g1, r19.2]) (ρ := [0, 2, 3]) (φ := [3, 5]) (ψ := [1, 2]) [none, none, none, some 0, none, some 1, none] [none, some 0, some 1] zyw_M_lands zyw_M_readsCondition zye_M_readsCondition (by decide +kernel) (zt_M_lands hr19) ⟨⟨_, rfl, fun _ => rfl⟩, ⟨_, rfl, fun _ => rfl⟩, trivial⟩ ⟨rfl, rfl, trivial⟩ rfl rfl rfl rfl rfl rfl rfl) zd231_103 zxt234 rfl (by decide) (by decide) rfl ?_
        refine zv_ald hB zd231_106 rfl rfl rfl ?_
        refine zv_ald hB zd231_107 rfl rfl rfl ?_
        refine zv_getf hB zd231_108 rfl rfl (fun _ _ => ?_)
        refine zv_con hB zd231_111 rfl ?_
        refine zv_subw hB zd231_112 ?_
        refine zv_putf hB zd231_113 rfl rfl (fun h => by cases h) rfl ?_
        refine zv_ald hB zd231_116 rfl rfl rfl ?_
        refine zv_ald hB zd231_117 rfl rfl rfl ?_
        refine zv_getf hB zd231_118 rfl rfl (fun _ _ => ?_)
        refine zv_con hB zd231_121 rfl ?_
        refine zv_subw hB zd231_122 ?_
        refine zv_putf hB zd231_123 rfl rfl (fun h => by cases h) rfl ?_
        refine zv_ald hB zd231_126 rfl rfl rfl ?_
        refine zv_ald hB zd231_127 rfl rfl rfl ?_
        refine zv_getf hB zd231_128 rfl rfl (fun _ _ => ?_)
        refine zv_con hB zd231_131 rfl ?_
        refine zv_addw hB zd231_132 ?_
        refine zv_putf hB zd231_133 rfl rfl (fun h => by cases h) rfl ?_
        refine zv_ald hB zd231_136 rfl rfl rfl ?_
        refine zv_getf hB zd231_137 rfl rfl (fun _ _ => ?_)
        refine zv_zne hB zd231_140 rfl (fun hc20 => ?_) (fun hc20 => ?_)
        · rw [if_neg hc20] at h
          refine zv_ald hB zd231_145 rfl rfl rfl ?_
          obtain ⟨r21, hr21, h⟩ := zi_bind h
          refine zv_cv hB (zv_emq (va2 := [.inr 0]) (F := [.inl (zi_w (f0 + 1)), .inl f1, .inl (zi_w (f2 - 1)), .inl (zi_w (r19.1 - 1)), .inl f4, .inl f5, .inl f6]) (F' := [.inl (zi_w (f0 + 1)), .inl f1, .inl r21.2.2.1, .inl r21.1, .inl f4, .inl r21.2.1, .inl f6]) (G := [g0, g1, r19.2]) (G' := [g0, g1, r21.2.2.2]) (ρ := [0, 2, 3]) (φ := [3, 5, 2]) (ψ := [1, 2]) [none, none, some 2, some 0, none, some 1, none] [none, some 0, some 1] zyw_M_endsPiece zyw_M_readsCondition zye_M_readsCondition (by decide +kernel) (zt_M_endsPiece hr21) ⟨⟨_, rfl, fun _ => rfl⟩, ⟨_, rfl, fun _ => rfl⟩, ⟨_, rfl, fun _ => rfl⟩, trivial⟩ ⟨rfl, rfl, trivial⟩ rfl rfl rfl rfl rfl rfl rfl) zd231_146 zxt233 rfl (by decide) (by decide) rfl ?_
          refine zv_goto hB zd231_149 rfl ?_
          exact ih _ _ _ _ _ _ _ _ q h hK
        · rw [if_pos hc20] at h
          refine zv_con hB zd231_143 rfl ?_
          have hw : (1, (zi_w (f0 + 1)), (zi_w (f2 - 1)), (zi_w (r19.1 - 1)), f4, f5, f6, g1, r19.2) = o := zi_rk (Option.some.inj h) hK
          subst hw
          exact hret _ _ _ _ _ zd231_144 (by constructor <;> decide) ⟨rfl, rfl, rfl⟩
  have l0 : ∀ (n : Nat) (f0 : Int) (f2 : Int) (f3 : Int) (f4 : Int) (f5 : Int) (f6 : Int) (g1 : (Int → Int)) (g2 : (Int → Int)) (q : ((Int × Int × Int × Int × Int × Int × (Int → Int) × (Int → Int)) ⊕ (Int × Int × Int × Int × Int × Int × Int × (Int → Int) × (Int → Int)))), zf_M_readsCondition_l0 f1 g0 n f0 f2 f3 f4 f5 f6 g1 g2 = some q → (Sum.elim (fun e : Int × Int × Int × Int × Int × Int × (Int → Int) × (Int → Int) => good 170 [.inr 0] [] [.inl e.1, .inl f1, .inl e.2.1, .inl e.2.2.1, .inl e.2.2.2.1, .inl e.2.2.2.2.1, .inl e.2.2.2.2.2.1] [g0, e.2.2.2.2.2.2.1, e.2.2.2.2.2.2.2]) (fun w : Int × Int × Int × Int × Int × Int × Int × (Int → Int) × (Int → Int) => w = o) q) → good 40 [.inr 0] [] [.inl f0, .inl f1, .inl f2, .inl f3, .inl f4, .inl f5, .inl f6] [g0, g1, g2] := by
    intro n
    induction n with
    | zero => intro f0 f2 f3 f4 f5 f6 g1 g2 q h; exact absurd (show none = some q from h) (fun h => by cases h)
    | succ n ih =>
      intro f0 f2 f3 f4 f5 f6 g1 g2 q h hK
      replace h : zf_M_readsCondition_l0_b f1 g0 (zf_M_readsCondition_l0 f1 g0 n) f0 f2 f3 f4 f5 f6 g1 g2 = some q := h
      unfold zf_M_readsCondition_l0_b at h
      refine zv_ald hB zd231_40 rfl rfl rfl ?_
      obtain ⟨r5, hr5, h⟩ := zi_bind h
      refine zv_cv hB (zv_emq (va2 := [.inr 0]) (F := [.inl f0, .inl f1, .inl f2, .inl f3, .inl f4, .inl f5, .inl f6]) (F' := [.inl f0, .inl f1, .inl f2, .inl f3, .inl f4, .inl f5, .inl f6]) (G := [g0, g1, g2]) (G' := [g0, g1, g2]) (ρ := [0, 1]) (φ := [0, 1]) (ψ := [0]) [some 0, some 1, none, none, none, none, none] [some 0, none, none] zyw_M_here zyw_M_readsCondition zye_M_readsCondition (by decide +kernel) (zt_M_here hr5) ⟨⟨_, rfl, fun _ => rfl⟩, ⟨_, rfl, fun _ => rfl⟩, trivial⟩ ⟨rfl, trivial⟩ rfl rfl rfl rfl rfl rfl rfl) zd231_41 zxt217 rfl (by decide) (by decide) rfl ?_
      refine zv_con hB zd231_44 rfl ?_
      refine zv_ceq hB zd231_46 rfl (fun hc6 => ?_) (fun hc6 => ?_)
      · rw [if_pos hc6] at h
        refine zv_ald hB zd231_58 rfl rfl rfl ?_
        refine zv_ald hB zd231_59 rfl rfl rfl ?_
        obtain ⟨r7, hr7, h⟩ := zi_bind h
        refine zv_cv hB (zv_emq (va2 := [.inr 0]) (F := [.inl f0, .inl f1, .inl f2, .inl f3, .inl f4, .inl f5, .inl f6]) (F' := [.inl f0, .inl f1, .inl f2, .inl f3, .inl f4, .inl f5, .inl f6]) (G := [g0, g1, g2]) (G' := [g0, g1, g2]) (ρ := [0, 1]) (φ := [0, 1]) (ψ := [0]) [some 0, some 1, none, none, none, none, none] [some 0, none, none] zyw_M_here zyw_M_readsCondition zye_M_readsCondition (by decide +kernel) (zt_M_here hr7) ⟨⟨_, rfl, fun _ => rfl⟩, ⟨_, rfl, fun _ => rfl⟩, trivial⟩ ⟨rfl, trivial⟩ rfl rfl rfl rfl rfl rfl rfl) zd231_60 zxt217 rfl (by decide) (by decide) rfl ?_
        refine zv_con hB zd231_63 rfl ?_
        refine zv_cne hB zd231_65 rfl (fun hc8 => ?_) (fun hc8 => ?_)
        · rw [if_neg hc8] at h
          refine zv_con hB zd231_73 rfl ?_
          obtain ⟨r9, hr9, h⟩ := zi_bind h
          refine zv_cv hB (zv_emq (va2 := [.inr 0, .inl 13]) (F := [.inl f0, .inl f1, .inl f2, .inl f3, .inl f4, .inl f5, .inl f6]) (F' := [.inl r9.2.2.2.1, .inl f1, .inl r9.2.1, .inl r9.2.2.1, .inl r9.2.2.2.2.1, .inl f5, .inl f6]) (G := [g0, g1, g2]) (G' := [g0, r9.2.2.2.2.2, g2]) (ρ := [0, 2]) (φ := [2, 3, 0, 4]) (ψ := [1]) [some 2, none, some 0, some 1, some 3, none, none] [none, some 0, none] zyw_M_opens zyw_M_readsCondition zye_M_readsCondition (by decide +kernel) (zt_M_opens hr9) ⟨⟨_, rfl, fun _ => rfl⟩, ⟨_, rfl, fun _ => rfl⟩, ⟨_, rfl, fun _ => rfl⟩, ⟨_, rfl, fun _ => rfl⟩, trivial⟩ ⟨rfl, trivial⟩ rfl rfl rfl rfl rfl rfl rfl) zd231_75 zxt222 rfl (by decide) (by decide) rfl ?_
          refine zv_zne hB zd231_78 rfl (fun hc10 => ?_) (fun hc10 => ?_)
          · rw [if_neg hc10] at h
            exact ih _ _ _ _ _ _ _ _ q h hK
          · rw [if_pos hc10] at h
            refine zv_con hB zd231_81 rfl ?_
            have hw : (0, r9.2.2.2.1, r9.2.1, r9.2.2.1, r9.2.2.2.2.1, f5, f6, r9.2.2.2.2.2, g2) = o := zi_rk (Option.some.inj h) hK
            subst hw
            exact hret _ _ _ _ _ zd231_82 (by constructor <;> decide) ⟨rfl, rfl, rfl⟩
        · rw [if_pos hc8] at h
          refine zv_con hB zd231_68 rfl ?_
          refine zv_goto hB zd231_70 rfl ?_
          obtain ⟨r11, hr11, h⟩ := zi_bind h
          refine zv_cv hB (zv_emq (va2 := [.inr 0, .inl 10]) (F := [.inl f0, .inl f1, .inl f2, .inl f3, .inl f4, .inl f5, .inl f6]) (F' := [.inl r11.2.2.2.1, .inl f1, .inl r11.2.1, .inl r11.2.2.1, .inl r11.2.2.2.2.1, .inl f5, .inl f6]) (G := [g0, g1, g2]) (G' := [g0, r11.2.2.2.2.2, g2]) (ρ := [0, 2]) (φ := [2, 3, 0, 4]) (ψ := [1]) [some 2, none, some 0, some 1, some 3, none, none] [none, some 0, none] zyw_M_opens zyw_M_readsCondition zye_M_readsCondition (by decide +kernel) (zt_M_opens hr11) ⟨⟨_, rfl, fun _ => rfl⟩, ⟨_, rfl, fun _ => rfl⟩, ⟨_, rfl, fun _ => rfl⟩, ⟨_, rfl, fun _ => rfl⟩, trivial⟩ ⟨rfl, trivial⟩ rfl rfl rfl rfl rfl rfl rfl) zd231_75 zxt222 rfl (by decide) (by decide) rfl ?_
          refine zv_zne hB zd231_78 rfl (fun hc12 => ?_) (fun hc12 => ?_)
          · rw [if_neg hc12] at h
            exact ih _ _ _ _ _ _ _ _ q h hK
          · rw [if_pos hc12] at h
            refine zv_con hB zd231_81 rfl ?_
            have hw : (0, r11.2.2.2.1, r11.2.1, r11.2.2.1, r11.2.2.2.2.1, f5, f6, r11.2.2.2.2.2, g2) = o := zi_rk (Option.some.inj h) hK
            subst hw
            exact hret _ _ _ _ _ zd231_82 (by constructor <;> decide) ⟨rfl, rfl, rfl⟩
      · rw [if_neg hc6] at h
        refine zv_ald hB zd231_49 rfl rfl rfl ?_
        obtain ⟨r13, hr13, h⟩ := zi_bind h
        refine zv_cv hB (zv_emq (va2 := [.inr 0]) (F := [.inl f0, .inl f1, .inl f2, .inl f3, .inl f4, .inl f5, .inl f6]) (F' := [.inl f0, .inl f1, .inl f2, .inl f3, .inl f4, .inl f5, .inl f6]) (G := [g0, g1, g2]) (G' := [g0, g1, g2]) (ρ := [0, 1]) (φ := [0, 1]) (ψ := [0]) [some 0, some 1, none, none, none, none, none] [some 0, none, none] zyw_M_here zyw_M_readsCondition zye_M_readsCondition (by decide +kernel) (zt_M_here hr13) ⟨⟨_, rfl, fun _ => rfl⟩, ⟨_, rfl, fun _ => rfl⟩, trivial⟩ ⟨rfl, trivial⟩ rfl rfl rfl rfl rfl rfl rfl) zd231_50 zxt217 rfl (by decide) (by decide) rfl ?_
        refine zv_con hB zd231_53 rfl ?_
        refine zv_cne hB zd231_55 rfl (fun hc14 => ?_) (fun hc14 => ?_)
        · rw [if_neg hc14] at h
          refine zv_ald hB zd231_83 rfl rfl rfl ?_
          obtain ⟨r15, hr15, h⟩ := zi_bind h
          refine zv_cv hB (zv_emq (va2 := [.inr 0]) (F := [.inl f0, .inl f1, .inl f2, .inl f3, .inl f4, .inl f5, .inl f6]) (F' := [.inl r15.2.2.1, .inl f1, .inl r15.2.2.2.1, .inl r15.2.1, .inl r15.2.2.2.2.1, .inl r15.2.2.2.2.2.1, .inl r15.2.2.2.2.2.2.1]) (G := [g0, g1, g2]) (G' := [g0, r15.2.2.2.2.2.2.2.1, r15.2.2.2.2.2.2.2.2]) (ρ := [0, 1, 2, 3]) (φ := [3, 0, 1, 2, 4, 5, 6]) (ψ := [0, 1, 2]) [some 1, some 2, some 3, some 0, some 4, some 5, some 6] [some 0, some 1, some 2] zyw_M_readsCompared zyw_M_readsCondition zye_M_readsCondition (by decide +kernel) (zt_M_readsCompared hr15) ⟨⟨_, rfl, fun _ => rfl⟩, ⟨_, rfl, fun _ => rfl⟩, ⟨_, rfl, fun _ => rfl⟩, ⟨_, rfl, fun _ => rfl⟩, ⟨_, rfl, fun _ => rfl⟩, ⟨_, rfl, fun _ => rfl⟩, ⟨_, rfl, fun _ => rfl⟩, trivial⟩ ⟨rfl, rfl, rfl, trivial⟩ rfl rfl rfl rfl rfl rfl rfl) zd231_84 zxt232 rfl (by decide) (by decide) rfl ?_
          refine zv_zne hB zd231_87 rfl (fun hc16 => ?_) (fun hc16 => ?_)
          · rw [if_neg hc16] at h
            obtain ⟨q22, hq22, h⟩ := zi_bind h
            refine l1 _ _ _ _ _ _ _ _ _ q22 hq22 ?_
            rcases q22 with e23 | w52
            · replace h := zi_sl h
              show good 152 [.inr 0] [] [.inl e23.1, .inl f1, .inl e23.2.1, .inl e23.2.2.1, .inl r15.2.2.2.2.1, .inl e23.2.2.2.1, .inl r15.2.2.2.2.2.2.1] [g0, r15.2.2.2.2.2.2.2.1, e23.2.2.2.2]
              refine zv_ald hB zd231_152 rfl rfl rfl ?_
              obtain ⟨r24, hr24, h⟩ := zi_bind h
              refine zv_cv hB (zv_emq (va2 := [.inr 0]) (F := [.inl e23.1, .inl f1, .inl e23.2.1, .inl e23.2.2.1, .inl r15.2.2.2.2.1, .inl e23.2.2.2.1, .inl r15.2.2.2.2.2.2.1]) (F' := [.inl e23.1, .inl f1, .inl e23.2.1, .inl e23.2.2.1, .inl r15.2.2.2.2.1, .inl e23.2.2.2.1, .inl r15.2.2.2.2.2.2.1]) (G := [g0, r15.2.2.2.2.2.2.2.1, e23.2.2.2.2]) (G' := [g0, r15.2.2.2.2.2.2.2.1, e23.2.2.2.2]) (ρ := [0, 1]) (φ := [0, 1]) (ψ := [0]) [some 0, some 1, none, none, none, none, none] [some 0, none, none] zyw_M_here zyw_M_readsCondition zye_M_readsCondition (by decide +kernel) (zt_M_here hr24) ⟨⟨_, rfl, fun _ => rfl⟩, ⟨_, rfl, fun _ => rfl⟩, trivial⟩ ⟨rfl, trivial⟩ rfl rfl rfl rfl rfl rfl rfl) zd231_153 zxt217 rfl (by decide) (by decide) rfl ?_
              refine zv_con hB zd231_156 rfl ?_
              refine zv_ceq hB zd231_158 rfl (fun hc25 => ?_) (fun hc25 => ?_)
              · rw [if_pos hc25] at h
                refine zv_ald hB zd231_180 rfl rfl rfl ?_
                refine zv_ald hB zd231_181 rfl rfl rfl ?_
                obtain ⟨r26, hr26, h⟩ := zi_bind h
                refine zv_cv hB (zv_emq (va2 := [.inr 0]) (F := [.inl e23.1, .inl f1, .inl e23.2.1, .inl e23.2.2.1, .inl r15.2.2.2.2.1, .inl e23.2.2.2.1, .inl r15.2.2.2.2.2.2.1]) (F' := [.inl e23.1, .inl f1, .inl e23.2.1, .inl e23.2.2.1, .inl r15.2.2.2.2.1, .inl e23.2.2.2.1, .inl r15.2.2.2.2.2.2.1]) (G := [g0, r15.2.2.2.2.2.2.2.1, e23.2.2.2.2]) (G' := [g0, r15.2.2.2.2.2.2.2.1, e23.2.2.2.2]) (ρ := [0, 1]) (φ := [0, 1]) (ψ := [0]) [some 0, some 1, none, none, none, none, none] [some 0, none, none] zyw_M_here zyw_M_readsCondition zye_M_readsCondition (by decide +kernel) (zt_M_here hr26) ⟨⟨_, rfl, fun _ => rfl⟩, ⟨_, rfl, fun _ => rfl⟩, trivial⟩ ⟨rfl, trivial⟩ rfl rfl rfl rfl rfl rfl rfl) zd231_182 zxt217 rfl (by decide) (by decide) rfl ?_
                refine zv_con hB zd231_185 rfl ?_
                refine zv_cne hB zd231_187 rfl (fun hc27 => ?_) (fun hc27 => ?_)
                · rw [if_neg hc27] at h
                  refine zv_con hB zd231_194 rfl ?_
                  obtain ⟨r28, hr28, h⟩ := zi_bind h
                  refine zv_cv hB (zv_emq (va2 := [.inr 0, .inl 0]) (F := [.inl e23.1, .inl f1, .inl e23.2.1, .inl e23.2.2.1, .inl r15.2.2.2.2.1, .inl e23.2.2.2.1, .inl r15.2.2.2.2.2.2.1]) (F' := [.inl e23.1, .inl f1, .inl e23.2.1, .inl r28.1, .inl r15.2.2.2.2.1, .inl e23.2.2.2.1, .inl r15.2.2.2.2.2.2.1]) (G := [g0, r15.2.2.2.2.2.2.2.1, e23.2.2.2.2]) (G' := [g0, r15.2.2.2.2.2.2.2.1, r28.2]) (ρ := [0, 2, 3]) (φ := [3, 5]) (ψ := [1, 2]) [none, none, none, some 0, none, some 1, none] [none, some 0, some 1] zyw_M_lands zyw_M_readsCondition zye_M_readsCondition (by decide +kernel) (zt_M_lands hr28) ⟨⟨_, rfl, fun _ => rfl⟩, ⟨_, rfl, fun _ => rfl⟩, trivial⟩ ⟨rfl, rfl, trivial⟩ rfl rfl rfl rfl rfl rfl rfl) zd231_195 zxt234 rfl (by decide) (by decide) rfl ?_
                  refine zv_ald hB zd231_198 rfl rfl rfl ?_
                  refine zv_ald hB zd231_199 rfl rfl rfl ?_
                  obtain ⟨r29, hr29, h⟩ := zi_bind h
                  refine zv_cv hB (zv_emq (va2 := [.inr 0]) (F := [.inl e23.1, .inl f1, .inl e23.2.1, .inl r28.1, .inl r15.2.2.2.2.1, .inl e23.2.2.2.1, .inl r15.2.2.2.2.2.2.1]) (F' := [.inl e23.1, .inl f1, .inl e23.2.1, .inl r28.1, .inl r15.2.2.2.2.1, .inl e23.2.2.2.1, .inl r15.2.2.2.2.2.2.1]) (G := [g0, r15.2.2.2.2.2.2.2.1, r28.2]) (G' := [g0, r15.2.2.2.2.2.2.2.1, r28.2]) (ρ := [0, 1]) (φ := [0, 1]) (ψ := [0]) [some 0, some 1, none, none, none, none, none] [some 0, none, none] zyw_M_here zyw_M_readsCondition zye_M_readsCondition (by decide +kernel) (zt_M_here hr29) ⟨⟨_, rfl, fun _ => rfl⟩, ⟨_, rfl, fun _ => rfl⟩, trivial⟩ ⟨rfl, trivial⟩ rfl rfl rfl rfl rfl rfl rfl) zd231_200 zxt217 rfl (by decide) (by decide) rfl ?_
                  refine zv_con hB zd231_203 rfl ?_
                  refine zv_cne hB zd231_205 rfl (fun hc30 => ?_) (fun hc30 => ?_)
                  · rw [if_neg hc30] at h
                    refine zv_con hB zd231_213 rfl ?_
                    obtain ⟨r31, hr31, h⟩ := zi_bind h
                    refine zv_cv hB (zv_emq (va2 := [.inr 0, .inl 12]) (F := [.inl e23.1, .inl f1, .inl e23.2.1, .inl r28.1, .inl r15.2.2.2.2.1, .inl e23.2.2.2.1, .inl r15.2.2.2.2.2.2.1]) (F' := [.inl r31.2.2.1, .inl f1, .inl e23.2.1, .inl r31.1, .inl r15.2.2.2.2.1, .inl r31.2.1, .inl r15.2.2.2.2.2.2.1]) (G := [g0, r15.2.2.2.2.2.2.2.1, r28.2]) (G' := [g0, r31.2.2.2.1, r31.2.2.2.2]) (ρ := [0, 2, 3]) (φ := [3, 5, 0]) (ψ := [1, 2]) [some 2, none, none, some 0, none, some 1, none] [none, some 0, some 1] zyw_M_jumps zyw_M_readsCondition zye_M_readsCondition (by decide +kernel) (zt_M_jumps hr31) ⟨⟨_, rfl, fun _ => rfl⟩, ⟨_, rfl, fun _ => rfl⟩, ⟨_, rfl, fun _ => rfl⟩, trivial⟩ ⟨rfl, rfl, trivial⟩ rfl rfl rfl rfl rfl rfl rfl) zd231_215 zxt235 rfl (by decide) (by decide) rfl ?_
                    refine zv_goto hB zd231_218 rfl ?_
                    exact ih _ _ _ _ _ _ _ _ q h hK
                  · rw [if_pos hc30] at h
                    refine zv_con hB zd231_208 rfl ?_
                    refine zv_goto hB zd231_210 rfl ?_
                    obtain ⟨r32, hr32, h⟩ := zi_bind h
                    refine zv_cv hB (zv_emq (va2 := [.inr 0, .inl 11]) (F := [.inl e23.1, .inl f1, .inl e23.2.1, .inl r28.1, .inl r15.2.2.2.2.1, .inl e23.2.2.2.1, .inl r15.2.2.2.2.2.2.1]) (F' := [.inl r32.2.2.1, .inl f1, .inl e23.2.1, .inl r32.1, .inl r15.2.2.2.2.1, .inl r32.2.1, .inl r15.2.2.2.2.2.2.1]) (G := [g0, r15.2.2.2.2.2.2.2.1, r28.2]) (G' := [g0, r32.2.2.2.1, r32.2.2.2.2]) (ρ := [0, 2, 3]) (φ := [3, 5, 0]) (ψ := [1, 2]) [some 2, none, none, some 0, none, some 1, none] [none, some 0, some 1] zyw_M_jumps zyw_M_readsCondition zye_M_readsCondition (by decide +kernel) (zt_M_jumps hr32) ⟨⟨_, rfl, fun _ => rfl⟩, ⟨_, rfl, fun _ => rfl⟩, ⟨_, rfl, fun _ => rfl⟩, trivial⟩ ⟨rfl, rfl, trivial⟩ rfl rfl rfl rfl rfl rfl rfl) zd231_215 zxt235 rfl (by decide) (by decide) rfl ?_
                    refine zv_goto hB zd231_218 rfl ?_
                    exact ih _ _ _ _ _ _ _ _ q h hK
                · rw [if_pos hc27] at h
                  refine zv_con hB zd231_190 rfl ?_
                  refine zv_goto hB zd231_191 rfl ?_
                  obtain ⟨r33, hr33, h⟩ := zi_bind h
                  refine zv_cv hB (zv_emq (va2 := [.inr 0, .inl 1]) (F := [.inl e23.1, .inl f1, .inl e23.2.1, .inl e23.2.2.1, .inl r15.2.2.2.2.1, .inl e23.2.2.2.1, .inl r15.2.2.2.2.2.2.1]) (F' := [.inl e23.1, .inl f1, .inl e23.2.1, .inl r33.1, .inl r15.2.2.2.2.1, .inl e23.2.2.2.1, .inl r15.2.2.2.2.2.2.1]) (G := [g0, r15.2.2.2.2.2.2.2.1, e23.2.2.2.2]) (G' := [g0, r15.2.2.2.2.2.2.2.1, r33.2]) (ρ := [0, 2, 3]) (φ := [3, 5]) (ψ := [1, 2]) [none, none, none, some 0, none, some 1, none] [none, some 0, some 1] zyw_M_lands zyw_M_readsCondition zye_M_readsCondition (by decide +kernel) (zt_M_lands hr33) ⟨⟨_, rfl, fun _ => rfl⟩, ⟨_, rfl, fun _ => rfl⟩, trivial⟩ ⟨rfl, rfl, trivial⟩ rfl rfl rfl rfl rfl rfl rfl) zd231_195 zxt234 rfl (by decide) (by decide) rfl ?_
                  refine zv_ald hB zd231_198 rfl rfl rfl ?_
                  refine zv_ald hB zd231_199 rfl rfl rfl ?_
                  obtain ⟨r34, hr34, h⟩ := zi_bind h
                  refine zv_cv hB (zv_emq (va2 := [.inr 0]) (F := [.inl e23.1, .inl f1, .inl e23.2.1, .inl r33.1, .inl r15.2.2.2.2.1, .inl e23.2.2.2.1, .inl r15.2.2.2.2.2.2.1]) (F' := [.inl e23.1, .inl f1, .inl e23.2.1, .inl r33.1, .inl r15.2.2.2.2.1, .inl e23.2.2.2.1, .inl r15.2.2.2.2.2.2.1]) (G := [g0, r15.2.2.2.2.2.2.2.1, r33.2]) (G' := [g0, r15.2.2.2.2.2.2.2.1, r33.2]) (ρ := [0, 1]) (φ := [0, 1]) (ψ := [0]) [some 0, some 1, none, none, none, none, none] [some 0, none, none] zyw_M_here zyw_M_readsCondition zye_M_readsCondition (by decide +kernel) (zt_M_here hr34) ⟨⟨_, rfl, fun _ => rfl⟩, ⟨_, rfl, fun _ => rfl⟩, trivial⟩ ⟨rfl, trivial⟩ rfl rfl rfl rfl rfl rfl rfl) zd231_200 zxt217 rfl (by decide) (by decide) rfl ?_
                  refine zv_con hB zd231_203 rfl ?_
                  refine zv_cne hB zd231_205 rfl (fun hc35 => ?_) (fun hc35 => ?_)
                  · rw [if_neg hc35] at h
                    refine zv_con hB zd231_213 rfl ?_
                    obtain ⟨r36, hr36, h⟩ := zi_bind h
                    refine zv_cv hB (zv_emq (va2 := [.inr 0, .inl 12]) (F := [.inl e23.1, .inl f1, .inl e23.2.1, .inl r33.1, .inl r15.2.2.2.2.1, .inl e23.2.2.2.1, .inl r15.2.2.2.2.2.2.1]) (F' := [.inl r36.2.2.1, .inl f1, .inl e23.2.1, .inl r36.1, .inl r15.2.2.2.2.1, .inl r36.2.1, .inl r15.2.2.2.2.2.2.1]) (G := [g0, r15.2.2.2.2.2.2.2.1, r33.2]) (G' := [g0, r36.2.2.2.1, r36.2.2.2.2]) (ρ := [0, 2, 3]) (φ := [3, 5, 0]) (ψ := [1, 2]) [some 2, none, none, some 0, none, some 1, none] [none, some 0, some 1] zyw_M_jumps zyw_M_readsCondition zye_M_readsCondition (by decide +kernel) (zt_M_jumps hr36) ⟨⟨_, rfl, fun _ => rfl⟩, ⟨_, rfl, fun _ => rfl⟩, ⟨_, rfl, fun _ => rfl⟩, trivial⟩ ⟨rfl, rfl, trivial⟩ rfl rfl rfl rfl rfl rfl rfl) zd231_215 zxt235 rfl (by decide) (by decide) rfl ?_
                    refine zv_goto hB zd231_218 rfl ?_
                    exact ih _ _ _ _ _ _ _ _ q h hK
                  · rw [if_pos hc35] at h
                    refine zv_con hB zd231_208 rfl ?_
                    refine zv_goto hB zd231_210 rfl ?_
                    obtain ⟨r37, hr37, h⟩ := zi_bind h
                    refine zv_cv hB (zv_emq (va2 := [.inr 0, .inl 11]) (F := [.inl e23.1, .inl f1, .inl e23.2.1, .inl r33.1, .inl r15.2.2.2.2.1, .inl e23.2.2.2.1, .inl r15.2.2.2.2.2.2.1]) (F' := [.inl r37.2.2.1, .inl f1, .inl e23.2.1, .inl r37.1, .inl r15.2.2.2.2.1, .inl r37.2.1, .inl r15.2.2.2.2.2.2.1]) (G := [g0, r15.2.2.2.2.2.2.2.1, r33.2]) (G' := [g0, r37.2.2.2.1, r37.2.2.2.2]) (ρ := [0, 2, 3]) (φ := [3, 5, 0]) (ψ := [1, 2]) [some 2, none, none, some 0, none, some 1, none] [none, some 0, some 1] zyw_M_jumps zyw_M_readsCondition zye_M_readsCondition (by decide +kernel) (zt_M_jumps hr37) ⟨⟨_, rfl, fun _ => rfl⟩, ⟨_, rfl, fun _ => rfl⟩, ⟨_, rfl, fun _ => rfl⟩, trivial⟩ ⟨rfl, rfl, trivial⟩ rfl rfl rfl rfl rfl rfl rfl) zd231_215 zxt235 rfl (by decide) (by decide) rfl ?_
                    refine zv_goto hB zd231_218 rfl ?_
                    exact ih _ _ _ _ _ _ _ _ q h hK
              · rw [if_neg hc25] at h
                refine zv_ald hB zd231_161 rfl rfl rfl ?_
                obtain ⟨r38, hr38, h⟩ := zi_bind h
                refine zv_cv hB (zv_emq (va2 := [.inr 0]) (F := [.inl e23.1, .inl f1, .inl e23.2.1, .inl e23.2.2.1, .inl r15.2.2.2.2.1, .inl e23.2.2.2.1, .inl r15.2.2.2.2.2.2.1]) (F' := [.inl e23.1, .inl f1, .inl e23.2.1, .inl e23.2.2.1, .inl r15.2.2.2.2.1, .inl e23.2.2.2.1, .inl r15.2.2.2.2.2.2.1]) (G := [g0, r15.2.2.2.2.2.2.2.1, e23.2.2.2.2]) (G' := [g0, r15.2.2.2.2.2.2.2.1, e23.2.2.2.2]) (ρ := [0, 1]) (φ := [0, 1]) (ψ := [0]) [some 0, some 1, none, none, none, none, none] [some 0, none, none] zyw_M_here zyw_M_readsCondition zye_M_readsCondition (by decide +kernel) (zt_M_here hr38) ⟨⟨_, rfl, fun _ => rfl⟩, ⟨_, rfl, fun _ => rfl⟩, trivial⟩ ⟨rfl, trivial⟩ rfl rfl rfl rfl rfl rfl rfl) zd231_162 zxt217 rfl (by decide) (by decide) rfl ?_
                refine zv_con hB zd231_165 rfl ?_
                refine zv_ceq hB zd231_167 rfl (fun hc39 => ?_) (fun hc39 => ?_)
                · rw [if_pos hc39] at h
                  refine zv_ald hB zd231_180 rfl rfl rfl ?_
                  refine zv_ald hB zd231_181 rfl rfl rfl ?_
                  obtain ⟨r40, hr40, h⟩ := zi_bind h
                  refine zv_cv hB (zv_emq (va2 := [.inr 0]) (F := [.inl e23.1, .inl f1, .inl e23.2.1, .inl e23.2.2.1, .inl r15.2.2.2.2.1, .inl e23.2.2.2.1, .inl r15.2.2.2.2.2.2.1]) (F' := [.inl e23.1, .inl f1, .inl e23.2.1, .inl e23.2.2.1, .inl r15.2.2.2.2.1, .inl e23.2.2.2.1, .inl r15.2.2.2.2.2.2.1]) (G := [g0, r15.2.2.2.2.2.2.2.1, e23.2.2.2.2]) (G' := [g0, r15.2.2.2.2.2.2.2.1, e23.2.2.2.2]) (ρ := [0, 1]) (φ := [0, 1]) (ψ := [0]) [some 0, some 1, none, none, none, none, none] [some 0, none, none] zyw_M_here zyw_M_readsCondition zye_M_readsCondition (by decide +kernel) (zt_M_here hr40) ⟨⟨_, rfl, fun _ => rfl⟩, ⟨_, rfl, fun _ => rfl⟩, trivial⟩ ⟨rfl, trivial⟩ rfl rfl rfl rfl rfl rfl rfl) zd231_182 zxt217 rfl (by decide) (by decide) rfl ?_
                  refine zv_con hB zd231_185 rfl ?_
                  refine zv_cne hB zd231_187 rfl (fun hc41 => ?_) (fun hc41 => ?_)
                  · rw [if_neg hc41] at h
                    refine zv_con hB zd231_194 rfl ?_
                    obtain ⟨r42, hr42, h⟩ := zi_bind h
                    refine zv_cv hB (zv_emq (va2 := [.inr 0, .inl 0]) (F := [.inl e23.1, .inl f1, .inl e23.2.1, .inl e23.2.2.1, .inl r15.2.2.2.2.1, .inl e23.2.2.2.1, .inl r15.2.2.2.2.2.2.1]) (F' := [.inl e23.1, .inl f1, .inl e23.2.1, .inl r42.1, .inl r15.2.2.2.2.1, .inl e23.2.2.2.1, .inl r15.2.2.2.2.2.2.1]) (G := [g0, r15.2.2.2.2.2.2.2.1, e23.2.2.2.2]) (G' := [g0, r15.2.2.2.2.2.2.2.1, r42.2]) (ρ := [0, 2, 3]) (φ := [3, 5]) (ψ := [1, 2]) [none, none, none, some 0, none, some 1, none] [none, some 0, some 1] zyw_M_lands zyw_M_readsCondition zye_M_readsCondition (by decide +kernel) (zt_M_lands hr42) ⟨⟨_, rfl, fun _ => rfl⟩, ⟨_, rfl, fun _ => rfl⟩, trivial⟩ ⟨rfl, rfl, trivial⟩ rfl rfl rfl rfl rfl rfl rfl) zd231_195 zxt234 rfl (by decide) (by decide) rfl ?_
                    refine zv_ald hB zd231_198 rfl rfl rfl ?_
                    refine zv_ald hB zd231_199 rfl rfl rfl ?_
                    obtain ⟨r43, hr43, h⟩ := zi_bind h
                    refine zv_cv hB (zv_emq (va2 := [.inr 0]) (F := [.inl e23.1, .inl f1, .inl e23.2.1, .inl r42.1, .inl r15.2.2.2.2.1, .inl e23.2.2.2.1, .inl r15.2.2.2.2.2.2.1]) (F' := [.inl e23.1, .inl f1, .inl e23.2.1, .inl r42.1, .inl r15.2.2.2.2.1, .inl e23.2.2.2.1, .inl r15.2.2.2.2.2.2.1]) (G := [g0, r15.2.2.2.2.2.2.2.1, r42.2]) (G' := [g0, r15.2.2.2.2.2.2.2.1, r42.2]) (ρ := [0, 1]) (φ := [0, 1]) (ψ := [0]) [some 0, some 1, none, none, none, none, none] [some 0, none, none] zyw_M_here zyw_M_readsCondition zye_M_readsCondition (by decide +kernel) (zt_M_here hr43) ⟨⟨_, rfl, fun _ => rfl⟩, ⟨_, rfl, fun _ => rfl⟩, trivial⟩ ⟨rfl, trivial⟩ rfl rfl rfl rfl rfl rfl rfl) zd231_200 zxt217 rfl (by decide) (by decide) rfl ?_
                    refine zv_con hB zd231_203 rfl ?_
                    refine zv_cne hB zd231_205 rfl (fun hc44 => ?_) (fun hc44 => ?_)
                    · rw [if_neg hc44] at h
                      refine zv_con hB zd231_213 rfl ?_
                      obtain ⟨r45, hr45, h⟩ := zi_bind h
                      refine zv_cv hB (zv_emq (va2 := [.inr 0, .inl 12]) (F := [.inl e23.1, .inl f1, .inl e23.2.1, .inl r42.1, .inl r15.2.2.2.2.1, .inl e23.2.2.2.1, .inl r15.2.2.2.2.2.2.1]) (F' := [.inl r45.2.2.1, .inl f1, .inl e23.2.1, .inl r45.1, .inl r15.2.2.2.2.1, .inl r45.2.1, .inl r15.2.2.2.2.2.2.1]) (G := [g0, r15.2.2.2.2.2.2.2.1, r42.2]) (G' := [g0, r45.2.2.2.1, r45.2.2.2.2]) (ρ := [0, 2, 3]) (φ := [3, 5, 0]) (ψ := [1, 2]) [some 2, none, none, some 0, none, some 1, none] [none, some 0, some 1] zyw_M_jumps zyw_M_readsCondition zye_M_readsCondition (by decide +kernel) (zt_M_jumps hr45) ⟨⟨_, rfl, fun _ => rfl⟩, ⟨_, rfl, fun _ => rfl⟩, ⟨_, rfl, fun _ => rfl⟩, trivial⟩ ⟨rfl, rfl, trivial⟩ rfl rfl rfl rfl rfl rfl rfl) zd231_215 zxt235 rfl (by decide) (by decide) rfl ?_
                      refine zv_goto hB zd231_218 rfl ?_
                      exact ih _ _ _ _ _ _ _ _ q h hK
                    · rw [if_pos hc44] at h
                      refine zv_con hB zd231_208 rfl ?_
                      refine zv_goto hB zd231_210 rfl ?_
                      obtain ⟨r46, hr46, h⟩ := zi_bind h
                      refine zv_cv hB (zv_emq (va2 := [.inr 0, .inl 11]) (F := [.inl e23.1, .inl f1, .inl e23.2.1, .inl r42.1, .inl r15.2.2.2.2.1, .inl e23.2.2.2.1, .inl r15.2.2.2.2.2.2.1]) (F' := [.inl r46.2.2.1, .inl f1, .inl e23.2.1, .inl r46.1, .inl r15.2.2.2.2.1, .inl r46.2.1, .inl r15.2.2.2.2.2.2.1]) (G := [g0, r15.2.2.2.2.2.2.2.1, r42.2]) (G' := [g0, r46.2.2.2.1, r46.2.2.2.2]) (ρ := [0, 2, 3]) (φ := [3, 5, 0]) (ψ := [1, 2]) [some 2, none, none, some 0, none, some 1, none] [none, some 0, some 1] zyw_M_jumps zyw_M_readsCondition zye_M_readsCondition (by decide +kernel) (zt_M_jumps hr46) ⟨⟨_, rfl, fun _ => rfl⟩, ⟨_, rfl, fun _ => rfl⟩, ⟨_, rfl, fun _ => rfl⟩, trivial⟩ ⟨rfl, rfl, trivial⟩ rfl rfl rfl rfl rfl rfl rfl) zd231_215 zxt235 rfl (by decide) (by decide) rfl ?_
                      refine zv_goto hB zd231_218 rfl ?_
                      exact ih _ _ _ _ _ _ _ _ q h hK
                  · rw [if_pos hc41] at h
                    refine zv_con hB zd231_190 rfl ?_
                    refine zv_goto hB zd231_191 rfl ?_
                    obtain ⟨r47, hr47, h⟩ := zi_bind h
                    refine zv_cv hB (zv_emq (va2 := [.inr 0, .inl 1]) (F := [.inl e23.1, .inl f1, .inl e23.2.1, .inl e23.2.2.1, .inl r15.2.2.2.2.1, .inl e23.2.2.2.1, .inl r15.2.2.2.2.2.2.1]) (F' := [.inl e23.1, .inl f1, .inl e23.2.1, .inl r47.1, .inl r15.2.2.2.2.1, .inl e23.2.2.2.1, .inl r15.2.2.2.2.2.2.1]) (G := [g0, r15.2.2.2.2.2.2.2.1, e23.2.2.2.2]) (G' := [g0, r15.2.2.2.2.2.2.2.1, r47.2]) (ρ := [0, 2, 3]) (φ := [3, 5]) (ψ := [1, 2]) [none, none, none, some 0, none, some 1, none] [none, some 0, some 1] zyw_M_lands zyw_M_readsCondition zye_M_readsCondition (by decide +kernel) (zt_M_lands hr47) ⟨⟨_, rfl, fun _ => rfl⟩, ⟨_, rfl, fun _ => rfl⟩, trivial⟩ ⟨rfl, rfl, trivial⟩ rfl rfl rfl rfl rfl rfl rfl) zd231_195 zxt234 rfl (by decide) (by decide) rfl ?_
                    refine zv_ald hB zd231_198 rfl rfl rfl ?_
                    refine zv_ald hB zd231_199 rfl rfl rfl ?_
                    obtain ⟨r48, hr48, h⟩ := zi_bind h
                    refine zv_cv hB (zv_emq (va2 := [.inr 0]) (F := [.inl e23.1, .inl f1, .inl e23.2.1, .inl r47.1, .inl r15.2.2.2.2.1, .inl e23.2.2.2.1, .inl r15.2.2.2.2.2.2.1]) (F' := [.inl e23.1, .inl f1, .inl e23.2.1, .inl r47.1, .inl r15.2.2.2.2.1, .inl e23.2.2.2.1, .inl r15.2.2.2.2.2.2.1]) (G := [g0, r15.2.2.2.2.2.2.2.1, r47.2]) (G' := [g0, r15.2.2.2.2.2.2.2.1, r47.2]) (ρ := [0, 1]) (φ := [0, 1]) (ψ := [0]) [some 0, some 1, none, none, none, none, none] [some 0, none, none] zyw_M_here zyw_M_readsCondition zye_M_readsCondition (by decide +kernel) (zt_M_here hr48) ⟨⟨_, rfl, fun _ => rfl⟩, ⟨_, rfl, fun _ => rfl⟩, trivial⟩ ⟨rfl, trivial⟩ rfl rfl rfl rfl rfl rfl rfl) zd231_200 zxt217 rfl (by decide) (by decide) rfl ?_
                    refine zv_con hB zd231_203 rfl ?_
                    refine zv_cne hB zd231_205 rfl (fun hc49 => ?_) (fun hc49 => ?_)
                    · rw [if_neg hc49] at h
                      refine zv_con hB zd231_213 rfl ?_
                      obtain ⟨r50, hr50, h⟩ := zi_bind h
                      refine zv_cv hB (zv_emq (va2 := [.inr 0, .inl 12]) (F := [.inl e23.1, .inl f1, .inl e23.2.1, .inl r47.1, .inl r15.2.2.2.2.1, .inl e23.2.2.2.1, .inl r15.2.2.2.2.2.2.1]) (F' := [.inl r50.2.2.1, .inl f1, .inl e23.2.1, .inl r50.1, .inl r15.2.2.2.2.1, .inl r50.2.1, .inl r15.2.2.2.2.2.2.1]) (G := [g0, r15.2.2.2.2.2.2.2.1, r47.2]) (G' := [g0, r50.2.2.2.1, r50.2.2.2.2]) (ρ := [0, 2, 3]) (φ := [3, 5, 0]) (ψ := [1, 2]) [some 2, none, none, some 0, none, some 1, none] [none, some 0, some 1] zyw_M_jumps zyw_M_readsCondition zye_M_readsCondition (by decide +kernel) (zt_M_jumps hr50) ⟨⟨_, rfl, fun _ => rfl⟩, ⟨_, rfl, fun _ => rfl⟩, ⟨_, rfl, fun _ => rfl⟩, trivial⟩ ⟨rfl, rfl, trivial⟩ rfl rfl rfl rfl rfl rfl rfl) zd231_215 zxt235 rfl (by decide) (by decide) rfl ?_
                      refine zv_goto hB zd231_218 rfl ?_
                      exact ih _ _ _ _ _ _ _ _ q h hK
                    · rw [if_pos hc49] at h
                      refine zv_con hB zd231_208 rfl ?_
                      refine zv_goto hB zd231_210 rfl ?_
                      obtain ⟨r51, hr51, h⟩ := zi_bind h
                      refine zv_cv hB (zv_emq (va2 := [.inr 0, .inl 11]) (F := [.inl e23.1, .inl f1, .inl e23.2.1, .inl r47.1, .inl r15.2.2.2.2.1, .inl e23.2.2.2.1, .inl r15.2.2.2.2.2.2.1]) (F' := [.inl r51.2.2.1, .inl f1, .inl e23.2.1, .inl r51.1, .inl r15.2.2.2.2.1, .inl r51.2.1, .inl r15.2.2.2.2.2.2.1]) (G := [g0, r15.2.2.2.2.2.2.2.1, r47.2]) (G' := [g0, r51.2.2.2.1, r51.2.2.2.2]) (ρ := [0, 2, 3]) (φ := [3, 5, 0]) (ψ := [1, 2]) [some 2, none, none, some 0, none, some 1, none] [none, some 0, some 1] zyw_M_jumps zyw_M_readsCondition zye_M_readsCondition (by decide +kernel) (zt_M_jumps hr51) ⟨⟨_, rfl, fun _ => rfl⟩, ⟨_, rfl, fun _ => rfl⟩, ⟨_, rfl, fun _ => rfl⟩, trivial⟩ ⟨rfl, rfl, trivial⟩ rfl rfl rfl rfl rfl rfl rfl) zd231_215 zxt235 rfl (by decide) (by decide) rfl ?_
                      refine zv_goto hB zd231_218 rfl ?_
                      exact ih _ _ _ _ _ _ _ _ q h hK
                · rw [if_neg hc39] at h
                  have hq := Option.some.inj h
                  subst hq
                  exact hK
            · exact zi_rk (Option.some.inj h) hK
          · rw [if_pos hc16] at h
            refine zv_con hB zd231_90 rfl ?_
            have hw : (0, r15.2.2.1, r15.2.2.2.1, r15.2.1, r15.2.2.2.2.1, r15.2.2.2.2.2.1, r15.2.2.2.2.2.2.1, r15.2.2.2.2.2.2.2.1, r15.2.2.2.2.2.2.2.2) = o := zi_rk (Option.some.inj h) hK
            subst hw
            exact hret _ _ _ _ _ zd231_91 (by constructor <;> decide) ⟨rfl, rfl, rfl⟩
        · rw [if_pos hc14] at h
          refine zv_ald hB zd231_58 rfl rfl rfl ?_
          refine zv_ald hB zd231_59 rfl rfl rfl ?_
          obtain ⟨r53, hr53, h⟩ := zi_bind h
          refine zv_cv hB (zv_emq (va2 := [.inr 0]) (F := [.inl f0, .inl f1, .inl f2, .inl f3, .inl f4, .inl f5, .inl f6]) (F' := [.inl f0, .inl f1, .inl f2, .inl f3, .inl f4, .inl f5, .inl f6]) (G := [g0, g1, g2]) (G' := [g0, g1, g2]) (ρ := [0, 1]) (φ := [0, 1]) (ψ := [0]) [some 0, some 1, none, none, none, none, none] [some 0, none, none] zyw_M_here zyw_M_readsCondition zye_M_readsCondition (by decide +kernel) (zt_M_here hr53) ⟨⟨_, rfl, fun _ => rfl⟩, ⟨_, rfl, fun _ => rfl⟩, trivial⟩ ⟨rfl, trivial⟩ rfl rfl rfl rfl rfl rfl rfl) zd231_60 zxt217 rfl (by decide) (by decide) rfl ?_
          refine zv_con hB zd231_63 rfl ?_
          refine zv_cne hB zd231_65 rfl (fun hc54 => ?_) (fun hc54 => ?_)
          · rw [if_neg hc54] at h
            refine zv_con hB zd231_73 rfl ?_
            obtain ⟨r55, hr55, h⟩ := zi_bind h
            refine zv_cv hB (zv_emq (va2 := [.inr 0, .inl 13]) (F := [.inl f0, .inl f1, .inl f2, .inl f3, .inl f4, .inl f5, .inl f6]) (F' := [.inl r55.2.2.2.1, .inl f1, .inl r55.2.1, .inl r55.2.2.1, .inl r55.2.2.2.2.1, .inl f5, .inl f6]) (G := [g0, g1, g2]) (G' := [g0, r55.2.2.2.2.2, g2]) (ρ := [0, 2]) (φ := [2, 3, 0, 4]) (ψ := [1]) [some 2, none, some 0, some 1, some 3, none, none] [none, some 0, none] zyw_M_opens zyw_M_readsCondition zye_M_readsCondition (by decide +kernel) (zt_M_opens hr55) ⟨⟨_, rfl, fun _ => rfl⟩, ⟨_, rfl, fun _ => rfl⟩, ⟨_, rfl, fun _ => rfl⟩, ⟨_, rfl, fun _ => rfl⟩, trivial⟩ ⟨rfl, trivial⟩ rfl rfl rfl rfl rfl rfl rfl) zd231_75 zxt222 rfl (by decide) (by decide) rfl ?_
            refine zv_zne hB zd231_78 rfl (fun hc56 => ?_) (fun hc56 => ?_)
            · rw [if_neg hc56] at h
              exact ih _ _ _ _ _ _ _ _ q h hK
            · rw [if_pos hc56] at h
              refine zv_con hB zd231_81 rfl ?_
              have hw : (0, r55.2.2.2.1, r55.2.1, r55.2.2.1, r55.2.2.2.2.1, f5, f6, r55.2.2.2.2.2, g2) = o := zi_rk (Option.some.inj h) hK
              subst hw
              exact hret _ _ _ _ _ zd231_82 (by constructor <;> decide) ⟨rfl, rfl, rfl⟩
          · rw [if_pos hc54] at h
            refine zv_con hB zd231_68 rfl ?_
            refine zv_goto hB zd231_70 rfl ?_
            obtain ⟨r57, hr57, h⟩ := zi_bind h
            refine zv_cv hB (zv_emq (va2 := [.inr 0, .inl 10]) (F := [.inl f0, .inl f1, .inl f2, .inl f3, .inl f4, .inl f5, .inl f6]) (F' := [.inl r57.2.2.2.1, .inl f1, .inl r57.2.1, .inl r57.2.2.1, .inl r57.2.2.2.2.1, .inl f5, .inl f6]) (G := [g0, g1, g2]) (G' := [g0, r57.2.2.2.2.2, g2]) (ρ := [0, 2]) (φ := [2, 3, 0, 4]) (ψ := [1]) [some 2, none, some 0, some 1, some 3, none, none] [none, some 0, none] zyw_M_opens zyw_M_readsCondition zye_M_readsCondition (by decide +kernel) (zt_M_opens hr57) ⟨⟨_, rfl, fun _ => rfl⟩, ⟨_, rfl, fun _ => rfl⟩, ⟨_, rfl, fun _ => rfl⟩, ⟨_, rfl, fun _ => rfl⟩, trivial⟩ ⟨rfl, trivial⟩ rfl rfl rfl rfl rfl rfl rfl) zd231_75 zxt222 rfl (by decide) (by decide) rfl ?_
            refine zv_zne hB zd231_78 rfl (fun hc58 => ?_) (fun hc58 => ?_)
            · rw [if_neg hc58] at h
              exact ih _ _ _ _ _ _ _ _ q h hK
            · rw [if_pos hc58] at h
              refine zv_con hB zd231_81 rfl ?_
              have hw : (0, r57.2.2.2.1, r57.2.1, r57.2.2.1, r57.2.2.2.2.1, f5, f6, r57.2.2.2.2.2, g2) = o := zi_rk (Option.some.inj h) hK
              subst hw
              exact hret _ _ _ _ _ zd231_82 (by constructor <;> decide) ⟨rfl, rfl, rfl⟩
  unfold zf_M_readsCondition at h
  refine zv_ald hB zd231_0 rfl rfl rfl ?_
  obtain ⟨r1, hr1, h⟩ := zi_bind h
  refine zv_cv hB (zv_emq (va2 := [.inr 0]) (F := [.inl f0, .inl f1, .inl f2, .inl f3, .inl f4, .inl f5, .inl f6]) (F' := [.inl f0, .inl f1, .inl f2, .inl f3, .inl f4, .inl f5, .inl f6]) (G := [g0, g1, g2]) (G' := [g0, g1, g2]) (ρ := [0, 1]) (φ := [0, 1]) (ψ := [0]) [some 0, some 1, none, none, none, none, none] [some 0, none, none] zyw_M_here zyw_M_readsCondition zye_M_readsCondition (by decide +kernel) (zt_M_here hr1) ⟨⟨_, rfl, fun _ => rfl⟩, ⟨_, rfl, fun _ => rfl⟩, trivial⟩ ⟨rfl, trivial⟩ rfl rfl rfl rfl rfl rfl rfl) zd231_1 zxt217 rfl (by decide) (by decide) rfl ?_
  refine zv_con hB zd231_4 rfl ?_
  refine zv_ceq hB zd231_6 rfl (fun hc2 => ?_) (fun hc2 => ?_)
  · rw [if_pos hc2] at h
    refine zv_ald hB zd231_19 rfl rfl rfl ?_
    refine zv_con hB zd231_20 rfl ?_
    refine zv_putf hB zd231_21 rfl rfl (fun h => by cases h) rfl ?_
    refine zv_ald hB zd231_24 rfl rfl rfl ?_
    refine zv_con hB zd231_25 rfl ?_
    refine zv_putf hB zd231_26 rfl rfl (fun h => by cases h) rfl ?_
    refine zv_ald hB zd231_29 rfl rfl rfl ?_
    refine zv_con hB zd231_30 rfl ?_
    obtain ⟨r3, hr3, h⟩ := zi_bind h
    refine zv_cv hB (zv_emq (va2 := [.inr 0, .inl 13]) (F := [.inl f0, .inl f1, .inl 0, .inl 0, .inl f4, .inl f5, .inl f6]) (F' := [.inl r3.2.2.2.1, .inl f1, .inl r3.2.1, .inl r3.2.2.1, .inl r3.2.2.2.2.1, .inl f5, .inl f6]) (G := [g0, g1, g2]) (G' := [g0, r3.2.2.2.2.2, g2]) (ρ := [0, 2]) (φ := [2, 3, 0, 4]) (ψ := [1]) [some 2, none, some 0, some 1, some 3, none, none] [none, some 0, none] zyw_M_opens zyw_M_readsCondition zye_M_readsCondition (by decide +kernel) (zt_M_opens hr3) ⟨⟨_, rfl, fun _ => rfl⟩, ⟨_, rfl, fun _ => rfl⟩, ⟨_, rfl, fun _ => rfl⟩, ⟨_, rfl, fun _ => rfl⟩, trivial⟩ ⟨rfl, trivial⟩ rfl rfl rfl rfl rfl rfl rfl) zd231_32 zxt222 rfl (by decide) (by decide) rfl ?_
    refine zv_zne hB zd231_35 rfl (fun hc4 => ?_) (fun hc4 => ?_)
    · rw [if_neg hc4] at h
      obtain ⟨q59, hq59, h⟩ := zi_bind h
      refine l0 _ _ _ _ _ _ _ _ _ q59 hq59 ?_
      rcases q59 with e60 | w63
      · replace h := zi_sl h
        show good 170 [.inr 0] [] [.inl e60.1, .inl f1, .inl e60.2.1, .inl e60.2.2.1, .inl e60.2.2.2.1, .inl e60.2.2.2.2.1, .inl e60.2.2.2.2.2.1] [g0, e60.2.2.2.2.2.2.1, e60.2.2.2.2.2.2.2]
        refine zv_ald hB zd231_170 rfl rfl rfl ?_
        refine zv_con hB zd231_171 rfl ?_
        refine zv_ald hB zd231_172 rfl rfl rfl ?_
        refine zv_getf hB zd231_173 rfl rfl (fun _ _ => ?_)
        obtain ⟨r61, hr61, h⟩ := zi_bind h
        refine zv_cv hB (zv_emq (va2 := [.inr 0, .inl 1, .inl e60.1]) (F := [.inl e60.1, .inl f1, .inl e60.2.1, .inl e60.2.2.1, .inl e60.2.2.2.1, .inl e60.2.2.2.2.1, .inl e60.2.2.2.2.2.1]) (F' := [.inl e60.1, .inl f1, .inl e60.2.1, .inl e60.2.2.1, .inl r61.2, .inl e60.2.2.2.2.1, .inl e60.2.2.2.2.2.1]) (G := [g0, e60.2.2.2.2.2.2.1, e60.2.2.2.2.2.2.2]) (G' := [g0, e60.2.2.2.2.2.2.1, e60.2.2.2.2.2.2.2]) (ρ := [0]) (φ := [4]) (ψ := []) [none, none, none, none, some 0, none, none] [none, none, none] zyw_M_wrongAt zyw_M_readsCondition zye_M_readsCondition (by decide +kernel) (zt_M_wrongAt hr61) ⟨⟨_, rfl, fun _ => rfl⟩, trivial⟩ trivial rfl rfl rfl rfl rfl rfl rfl) zd231_176 zxt219 rfl (by decide) (by decide) rfl ?_
        obtain ⟨c62, h⟩ := zi_if h
        have hw := Option.some.inj h
        subst hw
        exact hret _ _ _ _ _ zd231_179 (zi_bo_ok c62) ⟨rfl, rfl, rfl⟩
      · exact Option.some.inj h
    · rw [if_pos hc4] at h
      refine zv_con hB zd231_38 rfl ?_
      have hw := Option.some.inj h
      subst hw
      exact hret _ _ _ _ _ zd231_39 (by constructor <;> decide) ⟨rfl, rfl, rfl⟩
  · rw [if_neg hc2] at h
    refine zv_ald hB zd231_9 rfl rfl rfl ?_
    refine zv_con hB zd231_10 rfl ?_
    refine zv_ald hB zd231_11 rfl rfl rfl ?_
    refine zv_getf hB zd231_12 rfl rfl (fun _ _ => ?_)
    obtain ⟨r64, hr64, h⟩ := zi_bind h
    refine zv_cv hB (zv_emq (va2 := [.inr 0, .inl 1, .inl f0]) (F := [.inl f0, .inl f1, .inl f2, .inl f3, .inl f4, .inl f5, .inl f6]) (F' := [.inl f0, .inl f1, .inl f2, .inl f3, .inl r64.2, .inl f5, .inl f6]) (G := [g0, g1, g2]) (G' := [g0, g1, g2]) (ρ := [0]) (φ := [4]) (ψ := []) [none, none, none, none, some 0, none, none] [none, none, none] zyw_M_wrongAt zyw_M_readsCondition zye_M_readsCondition (by decide +kernel) (zt_M_wrongAt hr64) ⟨⟨_, rfl, fun _ => rfl⟩, trivial⟩ trivial rfl rfl rfl rfl rfl rfl rfl) zd231_15 zxt219 rfl (by decide) (by decide) rfl ?_
    obtain ⟨c65, h⟩ := zi_if h
    have hw := Option.some.inj h
    subst hw
    exact hret _ _ _ _ _ zd231_18 (zi_bo_ok c65) ⟨rfl, rfl, rfl⟩
