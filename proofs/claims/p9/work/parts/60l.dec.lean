/-! Methods as functions, and that they do what these do. -/
/-! Law_run (II)Z -/
-- names: 0 Law('arg', 0), 1 (0, 200)(0, 4, 0), 2 (0, 40)(0, 4, 13), 3 (0, 200)(0, 4, 1), 4 (0, 13)(0, 4, 12)
-- fields: f0 = 0.answer_; arrays: g0 = 1, g1 = 2, g2 = 3, g3 = 4; out: [('ret', None), ('f', 0), ('g', 1)]
abbrev zy_Law_run : zNL := (5, [(0, 4)], [(0, 4, 14, 0)], [(0, 4, 0, 1), (0, 4, 13, 2), (0, 4, 1, 3), (0, 4, 12, 4)], [(1, 0, 200, 0), (2, 0, 40, 1), (3, 0, 200, 2), (4, 0, 13, 3)])
theorem zyw_Law_run : zv_wf zy_Law_run = true := by decide +kernel
theorem zye_Law_run : zv_ek2 zy_Law_run = true := by decide +kernel
def zf_Law_run_l0_b (x2 : Int) (f0 : Int) (g0 : (Int → Int)) (g2 : (Int → Int)) (g3 : (Int → Int)) (rec : Int → Int → (Int → Int) → Option (((Int × (Int → Int)) ⊕ (Int × Int × (Int → Int))))) (x3 : Int) (x4 : Int) (g1 : (Int → Int)) : Option (((Int × (Int → Int)) ⊕ (Int × Int × (Int → Int)))) := if x4 < x2 then (cond (zi_ix x4 200) (if 1 < (g0 x4) then (if (g0 x4) < 5 then (if x3 < 0 then (some (.inr (0, f0, g1))) else (cond (zi_ix x3 40) (if (g0 x4) = 2 then (if (g1 x3) = 0 then (rec x3 (zi_w (x4 + 1)) (zv_up g1 x3 1)) else (rec x3 (zi_w (x4 + 1)) (zv_up g1 x3 0))) else (if (g1 x3) = 0 then (if (g0 x4) = 3 then (rec (zi_w (x3 + (-1))) (zi_w (x4 + 1)) g1) else ((zf_Math_max x4 (zi_w ((g2 x4) - 1))).bind fun r44 => (rec x3 (zi_w (r44 + 1)) g1))) else (if (g0 x4) = 3 then ((zf_Math_max x4 (zi_w ((g2 x4) - 1))).bind fun r51 => (rec x3 (zi_w (r51 + 1)) g1)) else (rec (zi_w (x3 + (-1))) (zi_w (x4 + 1)) g1)))) none)) else (if x3 < 1 then (some (.inr (0, f0, g1))) else (cond (zi_ix x3 40) (if (g1 x3) = 0 then (if (g0 x4) = 8 then (some (.inr (0, f0, g1))) else (if (g0 x4) = 9 then (some (.inr (0, f0, g1))) else (cond (zi_ix (zi_w (x3 + (-1))) 40) (if (g0 x4) = 5 then (rec (zi_w (x3 + (-1))) (zi_w (x4 + 1)) (zv_up g1 (zi_w (x3 + (-1))) (zi_w ((g1 (zi_w (x3 + (-1)))) + (g1 x3))))) else (if (g0 x4) = 6 then (rec (zi_w (x3 + (-1))) (zi_w (x4 + 1)) (zv_up g1 (zi_w (x3 + (-1))) (zi_w ((g1 (zi_w (x3 + (-1)))) - (g1 x3))))) else (if (g0 x4) = 7 then (rec (zi_w (x3 + (-1))) (zi_w (x4 + 1)) (zv_up g1 (zi_w (x3 + (-1))) (zi_w ((g1 (zi_w (x3 + (-1)))) * (g1 x3))))) else (if (g0 x4) = 10 then (if (g1 (zi_w (x3 + (-1)))) < (g1 x3) then (rec (zi_w (x3 + (-1))) (zi_w (x4 + 1)) (zv_up g1 (zi_w (x3 + (-1))) 1)) else (rec (zi_w (x3 + (-1))) (zi_w (x4 + 1)) (zv_up g1 (zi_w (x3 + (-1))) 0))) else (if (g0 x4) = 11 then (if (g1 x3) < (g1 (zi_w (x3 + (-1)))) then (rec (zi_w (x3 + (-1))) (zi_w (x4 + 1)) (zv_up g1 (zi_w (x3 + (-1))) 1)) else (rec (zi_w (x3 + (-1))) (zi_w (x4 + 1)) (zv_up g1 (zi_w (x3 + (-1))) 0))) else (if (g1 (zi_w (x3 + (-1)))) = (g1 x3) then (rec (zi_w (x3 + (-1))) (zi_w (x4 + 1)) (zv_up g1 (zi_w (x3 + (-1))) 1)) else (rec (zi_w (x3 + (-1))) (zi_w (x4 + 1)) (zv_up g1 (zi_w (x3 + (-1))) 0)))))))) none))) else (cond (zi_ix (zi_w (x3 + (-1))) 40) (if (g0 x4) = 5 then (rec (zi_w (x3 + (-1))) (zi_w (x4 + 1)) (zv_up g1 (zi_w (x3 + (-1))) (zi_w ((g1 (zi_w (x3 + (-1)))) + (g1 x3))))) else (if (g0 x4) = 6 then (rec (zi_w (x3 + (-1))) (zi_w (x4 + 1)) (zv_up g1 (zi_w (x3 + (-1))) (zi_w ((g1 (zi_w (x3 + (-1)))) - (g1 x3))))) else (if (g0 x4) = 7 then (rec (zi_w (x3 + (-1))) (zi_w (x4 + 1)) (zv_up g1 (zi_w (x3 + (-1))) (zi_w ((g1 (zi_w (x3 + (-1)))) * (g1 x3))))) else (if (g0 x4) = 8 then (cond (zi_ne (g1 x3)) (rec (zi_w (x3 + (-1))) (zi_w (x4 + 1)) (zv_up g1 (zi_w (x3 + (-1))) (zi_div (g1 (zi_w (x3 + (-1)))) (g1 x3)))) none) else (if (g0 x4) = 9 then (cond (zi_ne (g1 x3)) (rec (zi_w (x3 + (-1))) (zi_w (x4 + 1)) (zv_up g1 (zi_w (x3 + (-1))) (zi_rem (g1 (zi_w (x3 + (-1)))) (g1 x3)))) none) else (if (g0 x4) = 10 then (if (g1 (zi_w (x3 + (-1)))) < (g1 x3) then (rec (zi_w (x3 + (-1))) (zi_w (x4 + 1)) (zv_up g1 (zi_w (x3 + (-1))) 1)) else (rec (zi_w (x3 + (-1))) (zi_w (x4 + 1)) (zv_up g1 (zi_w (x3 + (-1))) 0))) else (if (g0 x4) = 11 then (if (g1 x3) < (g1 (zi_w (x3 + (-1)))) then (rec (zi_w (x3 + (-1))) (zi_w (x4 + 1)) (zv_up g1 (zi_w (x3 + (-1))) 1)) else (rec (zi_w (x3 + (-1))) (zi_w (x4 + 1)) (zv_up g1 (zi_w (x3 + (-1))) 0))) else (if (g1 (zi_w (x3 + (-1)))) = (g1 x3) then (rec (zi_w (x3 + (-1))) (zi_w (x4 + 1)) (zv_up g1 (zi_w (x3 + (-1))) 1)) else (rec (zi_w (x3 + (-1))) (zi_w (x4 + 1)) (zv_up g1 (zi_w (x3 + (-1))) 0)))))))))) none)) none))) else (if (zi_w (x3 + 1)) < 40 then (if (g0 x4) = 0 then (cond (zi_ix (zi_w (x3 + 1)) 40) (rec (zi_w (x3 + 1)) (zi_w (x4 + 1)) (zv_up g1 (zi_w (x3 + 1)) (g2 x4))) none) else (cond (zi_ix (g2 x4) 13) (cond (zi_ix (zi_w (x3 + 1)) 40) (rec (zi_w (x3 + 1)) (zi_w (x4 + 1)) (zv_up g1 (zi_w (x3 + 1)) (g3 (g2 x4)))) none) none)) else (some (.inr (0, f0, g1))))) none) else (some (.inl (x3, g1)))
def zf_Law_run_l0 (x2 : Int) (f0 : Int) (g0 : (Int → Int)) (g2 : (Int → Int)) (g3 : (Int → Int)) : Nat → Int → Int → (Int → Int) → Option (((Int × (Int → Int)) ⊕ (Int × Int × (Int → Int))))
  | 0, _, _, _ => none
  | n + 1, x3, x4, g1 => zf_Law_run_l0_b x2 f0 g0 g2 g3 (zf_Law_run_l0 x2 f0 g0 g2 g3 n) x3 x4 g1
def zf_Law_run (x1 : Int) (x2 : Int) (f0 : Int) (g0 : (Int → Int)) (g1 : (Int → Int)) (g2 : (Int → Int)) (g3 : (Int → Int)) : Option (Int × Int × (Int → Int)) := (zf_Law_run_l0 x2 f0 g0 g2 g3 zi_fu (-1) x1 g1).bind fun q58 => Sum.elim (fun e59 => (if e59.1 < 0 then (some (1, 0, e59.2)) else (cond (zi_ix e59.1 40) (some (1, (e59.2 e59.1), e59.2)) none))) (fun w62 => some w62) q58
theorem zd94_0 : decode zxm94.2.1 0 = .ok (.iconst (-1), 1) := by decide +kernel
theorem zd94_1 : decode zxm94.2.1 1 = .ok (.istore_n 3, 1) := by decide +kernel
theorem zd94_2 : decode zxm94.2.1 2 = .ok (.iload_n 1, 1) := by decide +kernel
theorem zd94_3 : decode zxm94.2.1 3 = .ok (.istore 4, 2) := by decide +kernel
theorem zd94_5 : decode zxm94.2.1 5 = .ok (.iload 4, 2) := by decide +kernel
theorem zd94_7 : decode zxm94.2.1 7 = .ok (.iload_n 2, 1) := by decide +kernel
theorem zd94_8 : decode zxm94.2.1 8 = .ok (.if_icmp .ge 384, 3) := by decide +kernel
theorem zd94_11 : decode zxm94.2.1 11 = .ok (.aload_n 0, 1) := by decide +kernel
theorem zd94_12 : decode zxm94.2.1 12 = .ok (.getfield 9, 3) := by decide +kernel
theorem zd94_15 : decode zxm94.2.1 15 = .ok (.iload 4, 2) := by decide +kernel
theorem zd94_17 : decode zxm94.2.1 17 = .ok (.iaload, 1) := by decide +kernel
theorem zd94_18 : decode zxm94.2.1 18 = .ok (.istore 5, 2) := by decide +kernel
theorem zd94_20 : decode zxm94.2.1 20 = .ok (.iload 5, 2) := by decide +kernel
theorem zd94_22 : decode zxm94.2.1 22 = .ok (.iconst 1, 1) := by decide +kernel
theorem zd94_23 : decode zxm94.2.1 23 = .ok (.if_icmp .gt 50, 3) := by decide +kernel
theorem zd94_26 : decode zxm94.2.1 26 = .ok (.iinc 3 1, 3) := by decide +kernel
theorem zd94_29 : decode zxm94.2.1 29 = .ok (.iload_n 3, 1) := by decide +kernel
theorem zd94_30 : decode zxm94.2.1 30 = .ok (.bipush 40, 2) := by decide +kernel
theorem zd94_32 : decode zxm94.2.1 32 = .ok (.if_icmp .lt 5, 3) := by decide +kernel
theorem zd94_35 : decode zxm94.2.1 35 = .ok (.iconst 0, 1) := by decide +kernel
theorem zd94_36 : decode zxm94.2.1 36 = .ok (.ireturn, 1) := by decide +kernel
theorem zd94_37 : decode zxm94.2.1 37 = .ok (.aload_n 0, 1) := by decide +kernel
theorem zd94_38 : decode zxm94.2.1 38 = .ok (.getfield 59, 3) := by decide +kernel
theorem zd94_41 : decode zxm94.2.1 41 = .ok (.iload_n 3, 1) := by decide +kernel
theorem zd94_42 : decode zxm94.2.1 42 = .ok (.iload 5, 2) := by decide +kernel
theorem zd94_44 : decode zxm94.2.1 44 = .ok (.ifCond .ne 13, 3) := by decide +kernel
theorem zd94_47 : decode zxm94.2.1 47 = .ok (.aload_n 0, 1) := by decide +kernel
theorem zd94_48 : decode zxm94.2.1 48 = .ok (.getfield 13, 3) := by decide +kernel
theorem zd94_51 : decode zxm94.2.1 51 = .ok (.iload 4, 2) := by decide +kernel
theorem zd94_53 : decode zxm94.2.1 53 = .ok (.iaload, 1) := by decide +kernel
theorem zd94_54 : decode zxm94.2.1 54 = .ok (.goto 15, 3) := by decide +kernel
theorem zd94_57 : decode zxm94.2.1 57 = .ok (.aload_n 0, 1) := by decide +kernel
theorem zd94_58 : decode zxm94.2.1 58 = .ok (.getfield 56, 3) := by decide +kernel
theorem zd94_61 : decode zxm94.2.1 61 = .ok (.aload_n 0, 1) := by decide +kernel
theorem zd94_62 : decode zxm94.2.1 62 = .ok (.getfield 13, 3) := by decide +kernel
theorem zd94_65 : decode zxm94.2.1 65 = .ok (.iload 4, 2) := by decide +kernel
theorem zd94_67 : decode zxm94.2.1 67 = .ok (.iaload, 1) := by decide +kernel
theorem zd94_68 : decode zxm94.2.1 68 = .ok (.iaload, 1) := by decide +kernel
theorem zd94_69 : decode zxm94.2.1 69 = .ok (.iastore, 1) := by decide +kernel
theorem zd94_70 : decode zxm94.2.1 70 = .ok (.goto 316, 3) := by decide +kernel
theorem zd94_73 : decode zxm94.2.1 73 = .ok (.iload_n 3, 1) := by decide +kernel
theorem zd94_74 : decode zxm94.2.1 74 = .ok (.iload 5, 2) := by decide +kernel
theorem zd94_76 : decode zxm94.2.1 76 = .ok (.iconst 5, 1) := by decide +kernel
theorem zd94_77 : decode zxm94.2.1 77 = .ok (.if_icmp .ge 7, 3) := by decide +kernel
theorem zd94_80 : decode zxm94.2.1 80 = .ok (.iconst 0, 1) := by decide +kernel
theorem zd94_81 : decode zxm94.2.1 81 = .ok (.goto 4, 3) := by decide +kernel
theorem zd94_84 : decode zxm94.2.1 84 = .ok (.iconst 1, 1) := by decide +kernel
theorem zd94_85 : decode zxm94.2.1 85 = .ok (.if_icmp .ge 5, 3) := by decide +kernel
theorem zd94_88 : decode zxm94.2.1 88 = .ok (.iconst 0, 1) := by decide +kernel
theorem zd94_89 : decode zxm94.2.1 89 = .ok (.ireturn, 1) := by decide +kernel
theorem zd94_90 : decode zxm94.2.1 90 = .ok (.aload_n 0, 1) := by decide +kernel
theorem zd94_91 : decode zxm94.2.1 91 = .ok (.getfield 59, 3) := by decide +kernel
theorem zd94_94 : decode zxm94.2.1 94 = .ok (.iload_n 3, 1) := by decide +kernel
theorem zd94_95 : decode zxm94.2.1 95 = .ok (.iaload, 1) := by decide +kernel
theorem zd94_96 : decode zxm94.2.1 96 = .ok (.istore 6, 2) := by decide +kernel
theorem zd94_98 : decode zxm94.2.1 98 = .ok (.iload 5, 2) := by decide +kernel
theorem zd94_100 : decode zxm94.2.1 100 = .ok (.iconst 2, 1) := by decide +kernel
theorem zd94_101 : decode zxm94.2.1 101 = .ok (.if_icmp .ne 22, 3) := by decide +kernel
theorem zd94_104 : decode zxm94.2.1 104 = .ok (.aload_n 0, 1) := by decide +kernel
theorem zd94_105 : decode zxm94.2.1 105 = .ok (.getfield 59, 3) := by decide +kernel
theorem zd94_108 : decode zxm94.2.1 108 = .ok (.iload_n 3, 1) := by decide +kernel
theorem zd94_109 : decode zxm94.2.1 109 = .ok (.iload 6, 2) := by decide +kernel
theorem zd94_111 : decode zxm94.2.1 111 = .ok (.ifCond .ne 7, 3) := by decide +kernel
theorem zd94_114 : decode zxm94.2.1 114 = .ok (.iconst 1, 1) := by decide +kernel
theorem zd94_115 : decode zxm94.2.1 115 = .ok (.goto 4, 3) := by decide +kernel
theorem zd94_118 : decode zxm94.2.1 118 = .ok (.iconst 0, 1) := by decide +kernel
theorem zd94_119 : decode zxm94.2.1 119 = .ok (.iastore, 1) := by decide +kernel
theorem zd94_120 : decode zxm94.2.1 120 = .ok (.goto 266, 3) := by decide +kernel
theorem zd94_123 : decode zxm94.2.1 123 = .ok (.iload 5, 2) := by decide +kernel
theorem zd94_125 : decode zxm94.2.1 125 = .ok (.iconst 5, 1) := by decide +kernel
theorem zd94_126 : decode zxm94.2.1 126 = .ok (.if_icmp .ge 46, 3) := by decide +kernel
theorem zd94_129 : decode zxm94.2.1 129 = .ok (.iload 6, 2) := by decide +kernel
theorem zd94_131 : decode zxm94.2.1 131 = .ok (.ifCond .eq 7, 3) := by decide +kernel
theorem zd94_134 : decode zxm94.2.1 134 = .ok (.iconst 1, 1) := by decide +kernel
theorem zd94_135 : decode zxm94.2.1 135 = .ok (.goto 4, 3) := by decide +kernel
theorem zd94_138 : decode zxm94.2.1 138 = .ok (.iconst 0, 1) := by decide +kernel
theorem zd94_139 : decode zxm94.2.1 139 = .ok (.iload 5, 2) := by decide +kernel
theorem zd94_141 : decode zxm94.2.1 141 = .ok (.iconst 3, 1) := by decide +kernel
theorem zd94_142 : decode zxm94.2.1 142 = .ok (.if_icmp .ne 7, 3) := by decide +kernel
theorem zd94_145 : decode zxm94.2.1 145 = .ok (.iconst 1, 1) := by decide +kernel
theorem zd94_146 : decode zxm94.2.1 146 = .ok (.goto 4, 3) := by decide +kernel
theorem zd94_149 : decode zxm94.2.1 149 = .ok (.iconst 0, 1) := by decide +kernel
theorem zd94_150 : decode zxm94.2.1 150 = .ok (.if_icmp .ne 22, 3) := by decide +kernel
theorem zd94_153 : decode zxm94.2.1 153 = .ok (.iload 4, 2) := by decide +kernel
theorem zd94_155 : decode zxm94.2.1 155 = .ok (.aload_n 0, 1) := by decide +kernel
theorem zd94_156 : decode zxm94.2.1 156 = .ok (.getfield 13, 3) := by decide +kernel
theorem zd94_159 : decode zxm94.2.1 159 = .ok (.iload 4, 2) := by decide +kernel
theorem zd94_161 : decode zxm94.2.1 161 = .ok (.iaload, 1) := by decide +kernel
theorem zd94_162 : decode zxm94.2.1 162 = .ok (.iconst 1, 1) := by decide +kernel
theorem zd94_163 : decode zxm94.2.1 163 = .ok (.isub, 1) := by decide +kernel
theorem zd94_164 : decode zxm94.2.1 164 = .ok (.invokestatic 102, 3) := by decide +kernel
theorem zd94_167 : decode zxm94.2.1 167 = .ok (.istore 4, 2) := by decide +kernel
theorem zd94_169 : decode zxm94.2.1 169 = .ok (.goto 217, 3) := by decide +kernel
theorem zd94_172 : decode zxm94.2.1 172 = .ok (.iinc 3 (-1), 3) := by decide +kernel
theorem zd94_175 : decode zxm94.2.1 175 = .ok (.iload 5, 2) := by decide +kernel
theorem zd94_177 : decode zxm94.2.1 177 = .ok (.iconst 5, 1) := by decide +kernel
theorem zd94_178 : decode zxm94.2.1 178 = .ok (.if_icmp .ge 6, 3) := by decide +kernel
theorem zd94_181 : decode zxm94.2.1 181 = .ok (.goto 205, 3) := by decide +kernel
theorem zd94_184 : decode zxm94.2.1 184 = .ok (.iload 6, 2) := by decide +kernel
theorem zd94_186 : decode zxm94.2.1 186 = .ok (.ifCond .ne 19, 3) := by decide +kernel
theorem zd94_189 : decode zxm94.2.1 189 = .ok (.iload 5, 2) := by decide +kernel
theorem zd94_191 : decode zxm94.2.1 191 = .ok (.bipush 8, 2) := by decide +kernel
theorem zd94_193 : decode zxm94.2.1 193 = .ok (.if_icmp .eq 10, 3) := by decide +kernel
theorem zd94_196 : decode zxm94.2.1 196 = .ok (.iload 5, 2) := by decide +kernel
theorem zd94_198 : decode zxm94.2.1 198 = .ok (.bipush 9, 2) := by decide +kernel
theorem zd94_200 : decode zxm94.2.1 200 = .ok (.if_icmp .ne 5, 3) := by decide +kernel
theorem zd94_203 : decode zxm94.2.1 203 = .ok (.iconst 0, 1) := by decide +kernel
theorem zd94_204 : decode zxm94.2.1 204 = .ok (.ireturn, 1) := by decide +kernel
theorem zd94_205 : decode zxm94.2.1 205 = .ok (.aload_n 0, 1) := by decide +kernel
theorem zd94_206 : decode zxm94.2.1 206 = .ok (.getfield 59, 3) := by decide +kernel
theorem zd94_209 : decode zxm94.2.1 209 = .ok (.iload_n 3, 1) := by decide +kernel
theorem zd94_210 : decode zxm94.2.1 210 = .ok (.iaload, 1) := by decide +kernel
theorem zd94_211 : decode zxm94.2.1 211 = .ok (.istore 7, 2) := by decide +kernel
theorem zd94_213 : decode zxm94.2.1 213 = .ok (.iload 5, 2) := by decide +kernel
theorem zd94_215 : decode zxm94.2.1 215 = .ok (.tableswitch 153 5 11 #[41, 55, 69, 83, 97, 111, 132], 41) := by decide +kernel
theorem zd94_256 : decode zxm94.2.1 256 = .ok (.aload_n 0, 1) := by decide +kernel
theorem zd94_257 : decode zxm94.2.1 257 = .ok (.getfield 59, 3) := by decide +kernel
theorem zd94_260 : decode zxm94.2.1 260 = .ok (.iload_n 3, 1) := by decide +kernel
theorem zd94_261 : decode zxm94.2.1 261 = .ok (.iload 7, 2) := by decide +kernel
theorem zd94_263 : decode zxm94.2.1 263 = .ok (.iload 6, 2) := by decide +kernel
theorem zd94_265 : decode zxm94.2.1 265 = .ok (.iadd, 1) := by decide +kernel
theorem zd94_266 : decode zxm94.2.1 266 = .ok (.iastore, 1) := by decide +kernel
theorem zd94_267 : decode zxm94.2.1 267 = .ok (.goto 119, 3) := by decide +kernel
theorem zd94_270 : decode zxm94.2.1 270 = .ok (.aload_n 0, 1) := by decide +kernel
theorem zd94_271 : decode zxm94.2.1 271 = .ok (.getfield 59, 3) := by decide +kernel
theorem zd94_274 : decode zxm94.2.1 274 = .ok (.iload_n 3, 1) := by decide +kernel
theorem zd94_275 : decode zxm94.2.1 275 = .ok (.iload 7, 2) := by decide +kernel
theorem zd94_277 : decode zxm94.2.1 277 = .ok (.iload 6, 2) := by decide +kernel
theorem zd94_279 : decode zxm94.2.1 279 = .ok (.isub, 1) := by decide +kernel
theorem zd94_280 : decode zxm94.2.1 280 = .ok (.iastore, 1) := by decide +kernel
theorem zd94_281 : decode zxm94.2.1 281 = .ok (.goto 105, 3) := by decide +kernel
theorem zd94_284 : decode zxm94.2.1 284 = .ok (.aload_n 0, 1) := by decide +kernel
theorem zd94_285 : decode zxm94.2.1 285 = .ok (.getfield 59, 3) := by decide +kernel
theorem zd94_288 : decode zxm94.2.1 288 = .ok (.iload_n 3, 1) := by decide +kernel
theorem zd94_289 : decode zxm94.2.1 289 = .ok (.iload 7, 2) := by decide +kernel
theorem zd94_291 : decode zxm94.2.1 291 = .ok (.iload 6, 2) := by decide +kernel
theorem zd94_293 : decode zxm94.2.1 293 = .ok (.imul, 1) := by decide +kernel
theorem zd94_294 : decode zxm94.2.1 294 = .ok (.iastore, 1) := by decide +kernel
theorem zd94_295 : decode zxm94.2.1 295 = .ok (.goto 91, 3) := by decide +kernel
theorem zd94_298 : decode zxm94.2.1 298 = .ok (.aload_n 0, 1) := by decide +kernel
theorem zd94_299 : decode zxm94.2.1 299 = .ok (.getfield 59, 3) := by decide +kernel
theorem zd94_302 : decode zxm94.2.1 302 = .ok (.iload_n 3, 1) := by decide +kernel
theorem zd94_303 : decode zxm94.2.1 303 = .ok (.iload 7, 2) := by decide +kernel
theorem zd94_305 : decode zxm94.2.1 305 = .ok (.iload 6, 2) := by decide +kernel
theorem zd94_307 : decode zxm94.2.1 307 = .ok (.idiv, 1) := by decide +kernel
theorem zd94_308 : decode zxm94.2.1 308 = .ok (.iastore, 1) := by decide +kernel
theorem zd94_309 : decode zxm94.2.1 309 = .ok (.goto 77, 3) := by decide +kernel
theorem zd94_312 : decode zxm94.2.1 312 = .ok (.aload_n 0, 1) := by decide +kernel
theorem zd94_313 : decode zxm94.2.1 313 = .ok (.getfield 59, 3) := by decide +kernel
theorem zd94_316 : decode zxm94.2.1 316 = .ok (.iload_n 3, 1) := by decide +kernel
theorem zd94_317 : decode zxm94.2.1 317 = .ok (.iload 7, 2) := by decide +kernel
theorem zd94_319 : decode zxm94.2.1 319 = .ok (.iload 6, 2) := by decide +kernel
theorem zd94_321 : decode zxm94.2.1 321 = .ok (.irem, 1) := by decide +kernel
theorem zd94_322 : decode zxm94.2.1 322 = .ok (.iastore, 1) := by decide +kernel
theorem zd94_323 : decode zxm94.2.1 323 = .ok (.goto 63, 3) := by decide +kernel
theorem zd94_326 : decode zxm94.2.1 326 = .ok (.aload_n 0, 1) := by decide +kernel
theorem zd94_327 : decode zxm94.2.1 327 = .ok (.getfield 59, 3) := by decide +kernel
theorem zd94_330 : decode zxm94.2.1 330 = .ok (.iload_n 3, 1) := by decide +kernel
theorem zd94_331 : decode zxm94.2.1 331 = .ok (.iload 7, 2) := by decide +kernel
theorem zd94_333 : decode zxm94.2.1 333 = .ok (.iload 6, 2) := by decide +kernel
theorem zd94_335 : decode zxm94.2.1 335 = .ok (.if_icmp .ge 7, 3) := by decide +kernel
theorem zd94_338 : decode zxm94.2.1 338 = .ok (.iconst 1, 1) := by decide +kernel
theorem zd94_339 : decode zxm94.2.1 339 = .ok (.goto 4, 3) := by decide +kernel
theorem zd94_342 : decode zxm94.2.1 342 = .ok (.iconst 0, 1) := by decide +kernel
theorem zd94_343 : decode zxm94.2.1 343 = .ok (.iastore, 1) := by decide +kernel
theorem zd94_344 : decode zxm94.2.1 344 = .ok (.goto 42, 3) := by decide +kernel
theorem zd94_347 : decode zxm94.2.1 347 = .ok (.aload_n 0, 1) := by decide +kernel
theorem zd94_348 : decode zxm94.2.1 348 = .ok (.getfield 59, 3) := by decide +kernel
theorem zd94_351 : decode zxm94.2.1 351 = .ok (.iload_n 3, 1) := by decide +kernel
theorem zd94_352 : decode zxm94.2.1 352 = .ok (.iload 7, 2) := by decide +kernel
theorem zd94_354 : decode zxm94.2.1 354 = .ok (.iload 6, 2) := by decide +kernel
theorem zd94_356 : decode zxm94.2.1 356 = .ok (.if_icmp .le 7, 3) := by decide +kernel
theorem zd94_359 : decode zxm94.2.1 359 = .ok (.iconst 1, 1) := by decide +kernel
theorem zd94_360 : decode zxm94.2.1 360 = .ok (.goto 4, 3) := by decide +kernel
theorem zd94_363 : decode zxm94.2.1 363 = .ok (.iconst 0, 1) := by decide +kernel
theorem zd94_364 : decode zxm94.2.1 364 = .ok (.iastore, 1) := by decide +kernel
theorem zd94_365 : decode zxm94.2.1 365 = .ok (.goto 21, 3) := by decide +kernel
theorem zd94_368 : decode zxm94.2.1 368 = .ok (.aload_n 0, 1) := by decide +kernel
theorem zd94_369 : decode zxm94.2.1 369 = .ok (.getfield 59, 3) := by decide +kernel
theorem zd94_372 : decode zxm94.2.1 372 = .ok (.iload_n 3, 1) := by decide +kernel
theorem zd94_373 : decode zxm94.2.1 373 = .ok (.iload 7, 2) := by decide +kernel
theorem zd94_375 : decode zxm94.2.1 375 = .ok (.iload 6, 2) := by decide +kernel
theorem zd94_377 : decode zxm94.2.1 377 = .ok (.if_icmp .ne 7, 3) := by decide +kernel
theorem zd94_380 : decode zxm94.2.1 380 = .ok (.iconst 1, 1) := by decide +kernel
theorem zd94_381 : decode zxm94.2.1 381 = .ok (.goto 4, 3) := by decide +kernel
theorem zd94_384 : decode zxm94.2.1 384 = .ok (.iconst 0, 1) := by decide +kernel
theorem zd94_385 : decode zxm94.2.1 385 = .ok (.iastore, 1) := by decide +kernel
theorem zd94_386 : decode zxm94.2.1 386 = .ok (.iinc 4 1, 3) := by decide +kernel
theorem zd94_389 : decode zxm94.2.1 389 = .ok (.goto (-384), 3) := by decide +kernel
theorem zd94_392 : decode zxm94.2.1 392 = .ok (.aload_n 0, 1) := by decide +kernel
theorem zd94_393 : decode zxm94.2.1 393 = .ok (.iload_n 3, 1) := by decide +kernel
theorem zd94_394 : decode zxm94.2.1 394 = .ok (.ifCond .ge 7, 3) := by decide +kernel
theorem zd94_397 : decode zxm94.2.1 397 = .ok (.iconst 0, 1) := by decide +kernel
theorem zd94_398 : decode zxm94.2.1 398 = .ok (.goto 9, 3) := by decide +kernel
theorem zd94_401 : decode zxm94.2.1 401 = .ok (.aload_n 0, 1) := by decide +kernel
theorem zd94_402 : decode zxm94.2.1 402 = .ok (.getfield 59, 3) := by decide +kernel
theorem zd94_405 : decode zxm94.2.1 405 = .ok (.iload_n 3, 1) := by decide +kernel
theorem zd94_406 : decode zxm94.2.1 406 = .ok (.iaload, 1) := by decide +kernel
theorem zd94_407 : decode zxm94.2.1 407 = .ok (.putfield 62, 3) := by decide +kernel
theorem zd94_410 : decode zxm94.2.1 410 = .ok (.iconst 1, 1) := by decide +kernel
theorem zd94_411 : decode zxm94.2.1 411 = .ok (.ireturn, 1) := by decide +kernel
theorem zt_Law_run {x1 : Int} {x2 : Int} {f0 : Int} {g0 : (Int → Int)} {g1 : (Int → Int)} {g2 : (Int → Int)} {g3 : (Int → Int)} {o : Int × Int × (Int → Int)} (h : zf_Law_run x1 x2 f0 g0 g1 g2 g3 = some o) : zv_Fn z_TB z_cl z_KX zy_Law_run zxm94 (1, 60) [.inr 0, .inl x1, .inl x2] [.inl f0] [g0, g1, g2, g3] (some o.1) [.inl o.2.1] [g0, o.2.2, g2, g3] := zv_meth (K := (z_KF2, z_KC2, z_KL2, z_KT2, [], [], [], none)) (FT := z_FT) (MT := z_MT) (n := 3) zxp94 (z_ks2 _ (fun _ h => List.mem_cons_of_mem _ h) _ _ _ _ (fun j r h _ => by cases h)) (fun _ _ => zs_KX_p) zyw_Law_run (fun va F G h => by obtain ⟨rfl, _⟩ := h; rfl) (fun va F G h => by obtain ⟨rfl, _⟩ := h; rfl) rfl fun good va F G hB hret hvret hP => by
  obtain ⟨rfl, rfl, rfl⟩ := hP
  have l0 : ∀ (n : Nat) (x2 : Int) (x3 : Int) (x4 : Int) (f0 : Int) (g1 : (Int → Int)) (q : ((Int × (Int → Int)) ⊕ (Int × Int × (Int → Int)))), zf_Law_run_l0 x2 f0 g0 g2 g3 n x3 x4 g1 = some q → (Sum.elim (fun e : Int × (Int → Int) => good 392 [.inr 0, .inr 1000, .inr 1000, .inl e.1, .inr 1000, .inr 1000, .inr 1000, .inr 1000] [] [.inl f0] [g0, e.2, g2, g3]) (fun w : Int × Int × (Int → Int) => w = o) q) → good 5 [.inr 0, .inr 1000, .inl x2, .inl x3, .inl x4, .inr 1000, .inr 1000, .inr 1000] [] [.inl f0] [g0, g1, g2, g3] := by
    intro n
    induction n with
    | zero => intro x2 x3 x4 f0 g1 q h; exact absurd (show none = some q from h) (fun h => by cases h)
    | succ n ih =>
      intro x2 x3 x4 f0 g1 q h hK
      replace h : zf_Law_run_l0_b x2 f0 g0 g2 g3 (zf_Law_run_l0 x2 f0 g0 g2 g3 n) x3 x4 g1 = some q := h
      unfold zf_Law_run_l0_b at h
      refine zv_ild hB zd94_5 rfl rfl ?_
      refine zv_ild hB zd94_7 rfl rfl ?_
      refine zv_cge hB zd94_8 rfl (fun hc1 => ?_) (fun hc1 => ?_)
      · rw [if_neg (Int.not_lt.mpr hc1)] at h
        have hq := Option.some.inj h
        subst hq
        refine zv_wk hB (L' := [.inr 0, .inr 1000, .inr 1000, .inl x3, .inr 1000, .inr 1000, .inr 1000, .inr 1000]) (F' := [.inl f0]) ⟨fun _ => rfl, fun (h : zv_is (.inr 1000)) => (Nat.lt_irrefl 1000 h).elim, fun (h : zv_is (.inr 1000)) => (Nat.lt_irrefl 1000 h).elim, fun _ => rfl, fun (h : zv_is (.inr 1000)) => (Nat.lt_irrefl 1000 h).elim, fun (h : zv_is (.inr 1000)) => (Nat.lt_irrefl 1000 h).elim, fun (h : zv_is (.inr 1000)) => (Nat.lt_irrefl 1000 h).elim, fun (h : zv_is (.inr 1000)) => (Nat.lt_irrefl 1000 h).elim, trivial⟩ ⟨fun _ => rfl, trivial⟩ ?_
        exact hK
      · rw [if_pos hc1] at h
        refine zv_ald hB zd94_11 rfl rfl rfl ?_
        refine zv_getr hB zd94_12 rfl ?_
        refine zv_ild hB zd94_15 rfl rfl ?_
        obtain ⟨c2, h⟩ := zi_if h
        refine zv_iald hB zd94_17 rfl rfl (zi_ix_ok c2).1 (zi_ix_ok c2).2 (fun _ _ => ?_)
        refine zv_ist hB zd94_18 rfl rfl rfl ?_
        refine zv_ild hB zd94_20 rfl rfl ?_
        refine zv_con hB zd94_22 rfl ?_
        refine zv_cgt hB zd94_23 rfl (fun hc3 => ?_) (fun hc3 => ?_)
        · rw [if_pos hc3] at h
          refine zv_ild hB zd94_73 rfl rfl ?_
          refine zv_ild hB zd94_74 rfl rfl ?_
          refine zv_con hB zd94_76 rfl ?_
          refine zv_cge hB zd94_77 rfl (fun hc4 => ?_) (fun hc4 => ?_)
          · rw [if_neg (Int.not_lt.mpr hc4)] at h
            refine zv_con hB zd94_84 rfl ?_
            refine zv_cge hB zd94_85 rfl (fun hc5 => ?_) (fun hc5 => ?_)
            · rw [if_neg (Int.not_lt.mpr hc5)] at h
              refine zv_ald hB zd94_90 rfl rfl rfl ?_
              refine zv_getr hB zd94_91 rfl ?_
              refine zv_ild hB zd94_94 rfl rfl ?_
              obtain ⟨c6, h⟩ := zi_if h
              refine zv_iald hB zd94_95 rfl rfl (zi_ix_ok c6).1 (zi_ix_ok c6).2 (fun _ _ => ?_)
              refine zv_ist hB zd94_96 rfl rfl rfl ?_
              refine zv_ild hB zd94_98 rfl rfl ?_
              refine zv_con hB zd94_100 rfl ?_
              refine zv_cne hB zd94_101 rfl (fun _ => ?_) (fun hc => absurd hc (by omega))
              refine zv_ild hB zd94_123 rfl rfl ?_
              refine zv_con hB zd94_125 rfl ?_
              refine zv_cge hB zd94_126 rfl (fun _ => ?_) (fun hc => absurd hc (by omega))
              refine zv_iincw hB zd94_172 rfl rfl ?_
              refine zv_ild hB zd94_175 rfl rfl ?_
              refine zv_con hB zd94_177 rfl ?_
              refine zv_cge hB zd94_178 rfl (fun _ => ?_) (fun hc => absurd hc (by omega))
              refine zv_ild hB zd94_184 rfl rfl ?_
              refine zv_zne hB zd94_186 rfl (fun hc10 => ?_) (fun hc10 => ?_)
              · rw [if_neg hc10] at h
                refine zv_ald hB zd94_205 rfl rfl rfl ?_
                refine zv_getr hB zd94_206 rfl ?_
                refine zv_ild hB zd94_209 rfl rfl ?_
                obtain ⟨c11, h⟩ := zi_if h
                refine zv_iald hB zd94_210 rfl rfl (zi_ix_ok c11).1 (zi_ix_ok c11).2 (fun _ _ => ?_)
                refine zv_ist hB zd94_211 rfl rfl rfl ?_
                refine zv_ild hB zd94_213 rfl rfl ?_
                refine zv_tsw hB zd94_215 rfl ?_
                refine ⟨fun hc12 => ⟨_, rfl, ?_⟩, fun hc12 => ?_⟩
                · replace hc12 : (g0 x4) = 5 := hc12
                  rw [if_pos hc12] at h
                  refine zv_ald hB zd94_256 rfl rfl rfl ?_
                  refine zv_getr hB zd94_257 rfl ?_
                  refine zv_ild hB zd94_260 rfl rfl ?_
                  refine zv_ild hB zd94_261 rfl rfl ?_
                  refine zv_ild hB zd94_263 rfl rfl ?_
                  refine zv_addw hB zd94_265 ?_
                  refine zv_iast hB zd94_266 rfl rfl (zi_ix_ok c11).1 (zi_ix_ok c11).2 ?_
                  refine zv_goto hB zd94_267 rfl ?_
                  refine zv_iincw hB zd94_386 rfl rfl ?_
                  refine zv_goto hB zd94_389 rfl ?_
                  refine zv_wk hB (L' := [.inr 0, .inr 1000, .inl x2, .inl (zi_w (x3 + (-1))), .inl (zi_w (x4 + 1)), .inr 1000, .inr 1000, .inr 1000]) (F' := [.inl f0]) ⟨fun _ => rfl, fun (h : zv_is (.inr 1000)) => (Nat.lt_irrefl 1000 h).elim, fun _ => rfl, fun _ => rfl, fun _ => rfl, fun (h : zv_is (.inr 1000)) => (Nat.lt_irrefl 1000 h).elim, fun (h : zv_is (.inr 1000)) => (Nat.lt_irrefl 1000 h).elim, fun (h : zv_is (.inr 1000)) => (Nat.lt_irrefl 1000 h).elim, trivial⟩ ⟨fun _ => rfl, trivial⟩ ?_
                  exact ih _ _ _ _ _ q h hK
                replace hc12 : (g0 x4) ≠ 5 := hc12
                rw [if_neg hc12] at h
                refine ⟨fun hc13 => ⟨_, rfl, ?_⟩, fun hc13 => ?_⟩
                · replace hc13 : (g0 x4) = 6 := hc13
                  rw [if_pos hc13] at h
                  refine zv_ald hB zd94_270 rfl rfl rfl ?_
                  refine zv_getr hB zd94_271 rfl ?_
                  refine zv_ild hB zd94_274 rfl rfl ?_
                  refine zv_ild hB zd94_275 rfl rfl ?_
                  refine zv_ild hB zd94_277 rfl rfl ?_
                  refine zv_subw hB zd94_279 ?_
                  refine zv_iast hB zd94_280 rfl rfl (zi_ix_ok c11).1 (zi_ix_ok c11).2 ?_
                  refine zv_goto hB zd94_281 rfl ?_
                  refine zv_iincw hB zd94_386 rfl rfl ?_
                  refine zv_goto hB zd94_389 rfl ?_
                  refine zv_wk hB (L' := [.inr 0, .inr 1000, .inl x2, .inl (zi_w (x3 + (-1))), .inl (zi_w (x4 + 1)), .inr 1000, .inr 1000, .inr 1000]) (F' := [.inl f0]) ⟨fun _ => rfl, fun (h : zv_is (.inr 1000)) => (Nat.lt_irrefl 1000 h).elim, fun _ => rfl, fun _ => rfl, fun _ => rfl, fun (h : zv_is (.inr 1000)) => (Nat.lt_irrefl 1000 h).elim, fun (h : zv_is (.inr 1000)) => (Nat.lt_irrefl 1000 h).elim, fun (h : zv_is (.inr 1000)) => (Nat.lt_irrefl 1000 h).elim, trivial⟩ ⟨fun _ => rfl, trivial⟩ ?_
                  exact ih _ _ _ _ _ q h hK
                replace hc13 : (g0 x4) ≠ 6 := hc13
                rw [if_neg hc13] at h
                refine ⟨fun hc14 => ⟨_, rfl, ?_⟩, fun hc14 => ?_⟩
                · replace hc14 : (g0 x4) = 7 := hc14
                  rw [if_pos hc14] at h
                  refine zv_ald hB zd94_284 rfl rfl rfl ?_
                  refine zv_getr hB zd94_285 rfl ?_
                  refine zv_ild hB zd94_288 rfl rfl ?_
                  refine zv_ild hB zd94_289 rfl rfl ?_
                  refine zv_ild hB zd94_291 rfl rfl ?_
                  refine zv_mulw hB zd94_293 ?_
                  refine zv_iast hB zd94_294 rfl rfl (zi_ix_ok c11).1 (zi_ix_ok c11).2 ?_
                  refine zv_goto hB zd94_295 rfl ?_
                  refine zv_iincw hB zd94_386 rfl rfl ?_
                  refine zv_goto hB zd94_389 rfl ?_
                  refine zv_wk hB (L' := [.inr 0, .inr 1000, .inl x2, .inl (zi_w (x3 + (-1))), .inl (zi_w (x4 + 1)), .inr 1000, .inr 1000, .inr 1000]) (F' := [.inl f0]) ⟨fun _ => rfl, fun (h : zv_is (.inr 1000)) => (Nat.lt_irrefl 1000 h).elim, fun _ => rfl, fun _ => rfl, fun _ => rfl, fun (h : zv_is (.inr 1000)) => (Nat.lt_irrefl 1000 h).elim, fun (h : zv_is (.inr 1000)) => (Nat.lt_irrefl 1000 h).elim, fun (h : zv_is (.inr 1000)) => (Nat.lt_irrefl 1000 h).elim, trivial⟩ ⟨fun _ => rfl, trivial⟩ ?_
                  exact ih _ _ _ _ _ q h hK
                replace hc14 : (g0 x4) ≠ 7 := hc14
                rw [if_neg hc14] at h
                refine ⟨fun hc15 => ⟨_, rfl, ?_⟩, fun hc15 => ?_⟩
                · replace hc15 : (g0 x4) = 8 := hc15
                  rw [if_pos hc15] at h
                  refine zv_ald hB zd94_298 rfl rfl rfl ?_
                  refine zv_getr hB zd94_299 rfl ?_
                  refine zv_ild hB zd94_302 rfl rfl ?_
                  refine zv_ild hB zd94_303 rfl rfl ?_
                  refine zv_ild hB zd94_305 rfl rfl ?_
                  obtain ⟨c16, h⟩ := zi_if h
                  refine zv_divw hB zd94_307 (zi_ne_ok c16) ?_
                  refine zv_iast hB zd94_308 rfl rfl (zi_ix_ok c11).1 (zi_ix_ok c11).2 ?_
                  refine zv_goto hB zd94_309 rfl ?_
                  refine zv_iincw hB zd94_386 rfl rfl ?_
                  refine zv_goto hB zd94_389 rfl ?_
                  refine zv_wk hB (L' := [.inr 0, .inr 1000, .inl x2, .inl (zi_w (x3 + (-1))), .inl (zi_w (x4 + 1)), .inr 1000, .inr 1000, .inr 1000]) (F' := [.inl f0]) ⟨fun _ => rfl, fun (h : zv_is (.inr 1000)) => (Nat.lt_irrefl 1000 h).elim, fun _ => rfl, fun _ => rfl, fun _ => rfl, fun (h : zv_is (.inr 1000)) => (Nat.lt_irrefl 1000 h).elim, fun (h : zv_is (.inr 1000)) => (Nat.lt_irrefl 1000 h).elim, fun (h : zv_is (.inr 1000)) => (Nat.lt_irrefl 1000 h).elim, trivial⟩ ⟨fun _ => rfl, trivial⟩ ?_
                  exact ih _ _ _ _ _ q h hK
                replace hc15 : (g0 x4) ≠ 8 := hc15
                rw [if_neg hc15] at h
                refine ⟨fun hc17 => ⟨_, rfl, ?_⟩, fun hc17 => ?_⟩
                · replace hc17 : (g0 x4) = 9 := hc17
                  rw [if_pos hc17] at h
                  refine zv_ald hB zd94_312 rfl rfl rfl ?_
                  refine zv_getr hB zd94_313 rfl ?_
                  refine zv_ild hB zd94_316 rfl rfl ?_
                  refine zv_ild hB zd94_317 rfl rfl ?_
                  refine zv_ild hB zd94_319 rfl rfl ?_
                  obtain ⟨c18, h⟩ := zi_if h
                  refine zv_remw hB zd94_321 (zi_ne_ok c18) ?_
                  refine zv_iast hB zd94_322 rfl rfl (zi_ix_ok c11).1 (zi_ix_ok c11).2 ?_
                  refine zv_goto hB zd94_323 rfl ?_
                  refine zv_iincw hB zd94_386 rfl rfl ?_
                  refine zv_goto hB zd94_389 rfl ?_
                  refine zv_wk hB (L' := [.inr 0, .inr 1000, .inl x2, .inl (zi_w (x3 + (-1))), .inl (zi_w (x4 + 1)), .inr 1000, .inr 1000, .inr 1000]) (F' := [.inl f0]) ⟨fun _ => rfl, fun (h : zv_is (.inr 1000)) => (Nat.lt_irrefl 1000 h).elim, fun _ => rfl, fun _ => rfl, fun _ => rfl, fun (h : zv_is (.inr 1000)) => (Nat.lt_irrefl 1000 h).elim, fun (h : zv_is (.inr 1000)) => (Nat.lt_irrefl 1000 h).elim, fun (h : zv_is (.inr 1000)) => (Nat.lt_irrefl 1000 h).elim, trivial⟩ ⟨fun _ => rfl, trivial⟩ ?_
                  exact ih _ _ _ _ _ q h hK
                replace hc17 : (g0 x4) ≠ 9 := hc17
                rw [if_neg hc17] at h
                refine ⟨fun hc19 => ⟨_, rfl, ?_⟩, fun hc19 => ?_⟩
                · replace hc19 : (g0 x4) = 10 := hc19
                  rw [if_pos hc19] at h
                  refine zv_ald hB zd94_326 rfl rfl rfl ?_
                  refine zv_getr hB zd94_327 rfl ?_
                  refine zv_ild hB zd94_330 rfl rfl ?_
                  refine zv_ild hB zd94_331 rfl rfl ?_
                  refine zv_ild hB zd94_333 rfl rfl ?_
                  refine zv_cge hB zd94_335 rfl (fun hc20 => ?_) (fun hc20 => ?_)
                  · rw [if_neg (Int.not_lt.mpr hc20)] at h
                    refine zv_con hB zd94_342 rfl ?_
                    refine zv_iast hB zd94_343 rfl rfl (zi_ix_ok c11).1 (zi_ix_ok c11).2 ?_
                    refine zv_goto hB zd94_344 rfl ?_
                    refine zv_iincw hB zd94_386 rfl rfl ?_
                    refine zv_goto hB zd94_389 rfl ?_
                    refine zv_wk hB (L' := [.inr 0, .inr 1000, .inl x2, .inl (zi_w (x3 + (-1))), .inl (zi_w (x4 + 1)), .inr 1000, .inr 1000, .inr 1000]) (F' := [.inl f0]) ⟨fun _ => rfl, fun (h : zv_is (.inr 1000)) => (Nat.lt_irrefl 1000 h).elim, fun _ => rfl, fun _ => rfl, fun _ => rfl, fun (h : zv_is (.inr 1000)) => (Nat.lt_irrefl 1000 h).elim, fun (h : zv_is (.inr 1000)) => (Nat.lt_irrefl 1000 h).elim, fun (h : zv_is (.inr 1000)) => (Nat.lt_irrefl 1000 h).elim, trivial⟩ ⟨fun _ => rfl, trivial⟩ ?_
                    exact ih _ _ _ _ _ q h hK
                  · rw [if_pos hc20] at h
                    refine zv_con hB zd94_338 rfl ?_
                    refine zv_goto hB zd94_339 rfl ?_
                    refine zv_iast hB zd94_343 rfl rfl (zi_ix_ok c11).1 (zi_ix_ok c11).2 ?_
                    refine zv_goto hB zd94_344 rfl ?_
                    refine zv_iincw hB zd94_386 rfl rfl ?_
                    refine zv_goto hB zd94_389 rfl ?_
                    refine zv_wk hB (L' := [.inr 0, .inr 1000, .inl x2, .inl (zi_w (x3 + (-1))), .inl (zi_w (x4 + 1)), .inr 1000, .inr 1000, .inr 1000]) (F' := [.inl f0]) ⟨fun _ => rfl, fun (h : zv_is (.inr 1000)) => (Nat.lt_irrefl 1000 h).elim, fun _ => rfl, fun _ => rfl, fun _ => rfl, fun (h : zv_is (.inr 1000)) => (Nat.lt_irrefl 1000 h).elim, fun (h : zv_is (.inr 1000)) => (Nat.lt_irrefl 1000 h).elim, fun (h : zv_is (.inr 1000)) => (Nat.lt_irrefl 1000 h).elim, trivial⟩ ⟨fun _ => rfl, trivial⟩ ?_
                    exact ih _ _ _ _ _ q h hK
                replace hc19 : (g0 x4) ≠ 10 := hc19
                rw [if_neg hc19] at h
                refine ⟨fun hc21 => ⟨_, rfl, ?_⟩, fun hc21 => ?_⟩
                · replace hc21 : (g0 x4) = 11 := hc21
                  rw [if_pos hc21] at h
                  refine zv_ald hB zd94_347 rfl rfl rfl ?_
                  refine zv_getr hB zd94_348 rfl ?_
                  refine zv_ild hB zd94_351 rfl rfl ?_
                  refine zv_ild hB zd94_352 rfl rfl ?_
                  refine zv_ild hB zd94_354 rfl rfl ?_
                  refine zv_cle hB zd94_356 rfl (fun hc22 => ?_) (fun hc22 => ?_)
                  · rw [if_neg (Int.not_lt.mpr hc22)] at h
                    refine zv_con hB zd94_363 rfl ?_
                    refine zv_iast hB zd94_364 rfl rfl (zi_ix_ok c11).1 (zi_ix_ok c11).2 ?_
                    refine zv_goto hB zd94_365 rfl ?_
                    refine zv_iincw hB zd94_386 rfl rfl ?_
                    refine zv_goto hB zd94_389 rfl ?_
                    refine zv_wk hB (L' := [.inr 0, .inr 1000, .inl x2, .inl (zi_w (x3 + (-1))), .inl (zi_w (x4 + 1)), .inr 1000, .inr 1000, .inr 1000]) (F' := [.inl f0]) ⟨fun _ => rfl, fun (h : zv_is (.inr 1000)) => (Nat.lt_irrefl 1000 h).elim, fun _ => rfl, fun _ => rfl, fun _ => rfl, fun (h : zv_is (.inr 1000)) => (Nat.lt_irrefl 1000 h).elim, fun (h : zv_is (.inr 1000)) => (Nat.lt_irrefl 1000 h).elim, fun (h : zv_is (.inr 1000)) => (Nat.lt_irrefl 1000 h).elim, trivial⟩ ⟨fun _ => rfl, trivial⟩ ?_
                    exact ih _ _ _ _ _ q h hK
                  · rw [if_pos hc22] at h
                    refine zv_con hB zd94_359 rfl ?_
                    refine zv_goto hB zd94_360 rfl ?_
                    refine zv_iast hB zd94_364 rfl rfl (zi_ix_ok c11).1 (zi_ix_ok c11).2 ?_
                    refine zv_goto hB zd94_365 rfl ?_
                    refine zv_iincw hB zd94_386 rfl rfl ?_
                    refine zv_goto hB zd94_389 rfl ?_
                    refine zv_wk hB (L' := [.inr 0, .inr 1000, .inl x2, .inl (zi_w (x3 + (-1))), .inl (zi_w (x4 + 1)), .inr 1000, .inr 1000, .inr 1000]) (F' := [.inl f0]) ⟨fun _ => rfl, fun (h : zv_is (.inr 1000)) => (Nat.lt_irrefl 1000 h).elim, fun _ => rfl, fun _ => rfl, fun _ => rfl, fun (h : zv_is (.inr 1000)) => (Nat.lt_irrefl 1000 h).elim, fun (h : zv_is (.inr 1000)) => (Nat.lt_irrefl 1000 h).elim, fun (h : zv_is (.inr 1000)) => (Nat.lt_irrefl 1000 h).elim, trivial⟩ ⟨fun _ => rfl, trivial⟩ ?_
                    exact ih _ _ _ _ _ q h hK
                replace hc21 : (g0 x4) ≠ 11 := hc21
                rw [if_neg hc21] at h
                refine ⟨_, rfl, ?_⟩
                refine zv_ald hB zd94_368 rfl rfl rfl ?_
                refine zv_getr hB zd94_369 rfl ?_
                refine zv_ild hB zd94_372 rfl rfl ?_
                refine zv_ild hB zd94_373 rfl rfl ?_
                refine zv_ild hB zd94_375 rfl rfl ?_
                refine zv_cne hB zd94_377 rfl (fun hc23 => ?_) (fun hc23 => ?_)
                · rw [if_neg hc23] at h
                  refine zv_con hB zd94_384 rfl ?_
                  refine zv_iast hB zd94_385 rfl rfl (zi_ix_ok c11).1 (zi_ix_ok c11).2 ?_
                  refine zv_iincw hB zd94_386 rfl rfl ?_
                  refine zv_goto hB zd94_389 rfl ?_
                  refine zv_wk hB (L' := [.inr 0, .inr 1000, .inl x2, .inl (zi_w (x3 + (-1))), .inl (zi_w (x4 + 1)), .inr 1000, .inr 1000, .inr 1000]) (F' := [.inl f0]) ⟨fun _ => rfl, fun (h : zv_is (.inr 1000)) => (Nat.lt_irrefl 1000 h).elim, fun _ => rfl, fun _ => rfl, fun _ => rfl, fun (h : zv_is (.inr 1000)) => (Nat.lt_irrefl 1000 h).elim, fun (h : zv_is (.inr 1000)) => (Nat.lt_irrefl 1000 h).elim, fun (h : zv_is (.inr 1000)) => (Nat.lt_irrefl 1000 h).elim, trivial⟩ ⟨fun _ => rfl, trivial⟩ ?_
                  exact ih _ _ _ _ _ q h hK
                · rw [if_pos hc23] at h
                  refine zv_con hB zd94_380 rfl ?_
                  refine zv_goto hB zd94_381 rfl ?_
                  refine zv_iast hB zd94_385 rfl rfl (zi_ix_ok c11).1 (zi_ix_ok c11).2 ?_
                  refine zv_iincw hB zd94_386 rfl rfl ?_
                  refine zv_goto hB zd94_389 rfl ?_
                  refine zv_wk hB (L' := [.inr 0, .inr 1000, .inl x2, .inl (zi_w (x3 + (-1))), .inl (zi_w (x4 + 1)), .inr 1000, .inr 1000, .inr 1000]) (F' := [.inl f0]) ⟨fun _ => rfl, fun (h : zv_is (.inr 1000)) => (Nat.lt_irrefl 1000 h).elim, fun _ => rfl, fun _ => rfl, fun _ => rfl, fun (h : zv_is (.inr 1000)) => (Nat.lt_irrefl 1000 h).elim, fun (h : zv_is (.inr 1000)) => (Nat.lt_irrefl 1000 h).elim, fun (h : zv_is (.inr 1000)) => (Nat.lt_irrefl 1000 h).elim, trivial⟩ ⟨fun _ => rfl, trivial⟩ ?_
                  exact ih _ _ _ _ _ q h hK
              · rw [if_pos hc10] at h
                refine zv_ild hB zd94_189 rfl rfl ?_
                refine zv_con hB zd94_191 rfl ?_
                refine zv_ceq hB zd94_193 rfl (fun hc24 => ?_) (fun hc24 => ?_)
                · rw [if_pos hc24] at h
                  refine zv_con hB zd94_203 rfl ?_
                  have hw : (0, f0, g1) = o := zi_rk (Option.some.inj h) hK
                  subst hw
                  exact hret _ _ _ _ _ zd94_204 (by constructor <;> decide) ⟨rfl, rfl, rfl⟩
                · rw [if_neg hc24] at h
                  refine zv_ild hB zd94_196 rfl rfl ?_
                  refine zv_con hB zd94_198 rfl ?_
                  refine zv_cne hB zd94_200 rfl (fun hc25 => ?_) (fun hc25 => ?_)
                  · rw [if_neg hc25] at h
                    refine zv_ald hB zd94_205 rfl rfl rfl ?_
                    refine zv_getr hB zd94_206 rfl ?_
                    refine zv_ild hB zd94_209 rfl rfl ?_
                    obtain ⟨c26, h⟩ := zi_if h
                    refine zv_iald hB zd94_210 rfl rfl (zi_ix_ok c26).1 (zi_ix_ok c26).2 (fun _ _ => ?_)
                    refine zv_ist hB zd94_211 rfl rfl rfl ?_
                    refine zv_ild hB zd94_213 rfl rfl ?_
                    refine zv_tsw hB zd94_215 rfl ?_
                    refine ⟨fun hc27 => ⟨_, rfl, ?_⟩, fun hc27 => ?_⟩
                    · replace hc27 : (g0 x4) = 5 := hc27
                      rw [if_pos hc27] at h
                      refine zv_ald hB zd94_256 rfl rfl rfl ?_
                      refine zv_getr hB zd94_257 rfl ?_
                      refine zv_ild hB zd94_260 rfl rfl ?_
                      refine zv_ild hB zd94_261 rfl rfl ?_
                      refine zv_ild hB zd94_263 rfl rfl ?_
                      refine zv_addw hB zd94_265 ?_
                      refine zv_iast hB zd94_266 rfl rfl (zi_ix_ok c26).1 (zi_ix_ok c26).2 ?_
                      refine zv_goto hB zd94_267 rfl ?_
                      refine zv_iincw hB zd94_386 rfl rfl ?_
                      refine zv_goto hB zd94_389 rfl ?_
                      refine zv_wk hB (L' := [.inr 0, .inr 1000, .inl x2, .inl (zi_w (x3 + (-1))), .inl (zi_w (x4 + 1)), .inr 1000, .inr 1000, .inr 1000]) (F' := [.inl f0]) ⟨fun _ => rfl, fun (h : zv_is (.inr 1000)) => (Nat.lt_irrefl 1000 h).elim, fun _ => rfl, fun _ => rfl, fun _ => rfl, fun (h : zv_is (.inr 1000)) => (Nat.lt_irrefl 1000 h).elim, fun (h : zv_is (.inr 1000)) => (Nat.lt_irrefl 1000 h).elim, fun (h : zv_is (.inr 1000)) => (Nat.lt_irrefl 1000 h).elim, trivial⟩ ⟨fun _ => rfl, trivial⟩ ?_
                      exact ih _ _ _ _ _ q h hK
                    replace hc27 : (g0 x4) ≠ 5 := hc27
                    rw [if_neg hc27] at h
                    refine ⟨fun hc28 => ⟨_, rfl, ?_⟩, fun hc28 => ?_⟩
                    · replace hc28 : (g0 x4) = 6 := hc28
                      rw [if_pos hc28] at h
                      refine zv_ald hB zd94_270 rfl rfl rfl ?_
                      refine zv_getr hB zd94_271 rfl ?_
                      refine zv_ild hB zd94_274 rfl rfl ?_
                      refine zv_ild hB zd94_275 rfl rfl ?_
                      refine zv_ild hB zd94_277 rfl rfl ?_
                      refine zv_subw hB zd94_279 ?_
                      refine zv_iast hB zd94_280 rfl rfl (zi_ix_ok c26).1 (zi_ix_ok c26).2 ?_
                      refine zv_goto hB zd94_281 rfl ?_
                      refine zv_iincw hB zd94_386 rfl rfl ?_
                      refine zv_goto hB zd94_389 rfl ?_
                      refine zv_wk hB (L' := [.inr 0, .inr 1000, .inl x2, .inl (zi_w (x3 + (-1))), .inl (zi_w (x4 + 1)), .inr 1000, .inr 1000, .inr 1000]) (F' := [.inl f0]) ⟨fun _ => rfl, fun (h : zv_is (.inr 1000)) => (Nat.lt_irrefl 1000 h).elim, fun _ => rfl, fun _ => rfl, fun _ => rfl, fun (h : zv_is (.inr 1000)) => (Nat.lt_irrefl 1000 h).elim, fun (h : zv_is (.inr 1000)) => (Nat.lt_irrefl 1000 h).elim, fun (h : zv_is (.inr 1000)) => (Nat.lt_irrefl 1000 h).elim, trivial⟩ ⟨fun _ => rfl, trivial⟩ ?_
                      exact ih _ _ _ _ _ q h hK
                    replace hc28 : (g0 x4) ≠ 6 := hc28
                    rw [if_neg hc28] at h
                    refine ⟨fun hc29 => ⟨_, rfl, ?_⟩, fun hc29 => ?_⟩
                    · replace hc29 : (g0 x4) = 7 := hc29
                      rw [if_pos hc29] at h
                      refine zv_ald hB zd94_284 rfl rfl rfl ?_
                      refine zv_getr hB zd94_285 rfl ?_
                      refine zv_ild hB zd94_288 rfl rfl ?_
                      refine zv_ild hB zd94_289 rfl rfl ?_
                      refine zv_ild hB zd94_291 rfl rfl ?_
                      refine zv_mulw hB zd94_293 ?_
                      refine zv_iast hB zd94_294 rfl rfl (zi_ix_ok c26).1 (zi_ix_ok c26).2 ?_
                      refine zv_goto hB zd94_295 rfl ?_
                      refine zv_iincw hB zd94_386 rfl rfl ?_
                      refine zv_goto hB zd94_389 rfl ?_
                      refine zv_wk hB (L' := [.inr 0, .inr 1000, .inl x2, .inl (zi_w (x3 + (-1))), .inl (zi_w (x4 + 1)), .inr 1000, .inr 1000, .inr 1000]) (F' := [.inl f0]) ⟨fun _ => rfl, fun (h : zv_is (.inr 1000)) => (Nat.lt_irrefl 1000 h).elim, fun _ => rfl, fun _ => rfl, fun _ => rfl, fun (h : zv_is (.inr 1000)) => (Nat.lt_irrefl 1000 h).elim, fun (h : zv_is (.inr 1000)) => (Nat.lt_irrefl 1000 h).elim, fun (h : zv_is (.inr 1000)) => (Nat.lt_irrefl 1000 h).elim, trivial⟩ ⟨fun _ => rfl, trivial⟩ ?_
                      exact ih _ _ _ _ _ q h hK
                    replace hc29 : (g0 x4) ≠ 7 := hc29
                    rw [if_neg hc29] at h
                    refine ⟨fun hc => absurd (show (g0 x4) = 8 from hc) (by omega), fun hc30 => ?_⟩
                    replace hc30 : (g0 x4) ≠ 8 := hc30
                    refine ⟨fun hc => absurd (show (g0 x4) = 9 from hc) (by omega), fun hc31 => ?_⟩
                    replace hc31 : (g0 x4) ≠ 9 := hc31
                    refine ⟨fun hc32 => ⟨_, rfl, ?_⟩, fun hc32 => ?_⟩
                    · replace hc32 : (g0 x4) = 10 := hc32
                      rw [if_pos hc32] at h
                      refine zv_ald hB zd94_326 rfl rfl rfl ?_
                      refine zv_getr hB zd94_327 rfl ?_
                      refine zv_ild hB zd94_330 rfl rfl ?_
                      refine zv_ild hB zd94_331 rfl rfl ?_
                      refine zv_ild hB zd94_333 rfl rfl ?_
                      refine zv_cge hB zd94_335 rfl (fun hc33 => ?_) (fun hc33 => ?_)
                      · rw [if_neg (Int.not_lt.mpr hc33)] at h
                        refine zv_con hB zd94_342 rfl ?_
                        refine zv_iast hB zd94_343 rfl rfl (zi_ix_ok c26).1 (zi_ix_ok c26).2 ?_
                        refine zv_goto hB zd94_344 rfl ?_
                        refine zv_iincw hB zd94_386 rfl rfl ?_
                        refine zv_goto hB zd94_389 rfl ?_
                        refine zv_wk hB (L' := [.inr 0, .inr 1000, .inl x2, .inl (zi_w (x3 + (-1))), .inl (zi_w (x4 + 1)), .inr 1000, .inr 1000, .inr 1000]) (F' := [.inl f0]) ⟨fun _ => rfl, fun (h : zv_is (.inr 1000)) => (Nat.lt_irrefl 1000 h).elim, fun _ => rfl, fun _ => rfl, fun _ => rfl, fun (h : zv_is (.inr 1000)) => (Nat.lt_irrefl 1000 h).elim, fun (h : zv_is (.inr 1000)) => (Nat.lt_irrefl 1000 h).elim, fun (h : zv_is (.inr 1000)) => (Nat.lt_irrefl 1000 h).elim, trivial⟩ ⟨fun _ => rfl, trivial⟩ ?_
                        exact ih _ _ _ _ _ q h hK
                      · rw [if_pos hc33] at h
                        refine zv_con hB zd94_338 rfl ?_
                        refine zv_goto hB zd94_339 rfl ?_
                        refine zv_iast hB zd94_343 rfl rfl (zi_ix_ok c26).1 (zi_ix_ok c26).2 ?_
                        refine zv_goto hB zd94_344 rfl ?_
                        refine zv_iincw hB zd94_386 rfl rfl ?_
                        refine zv_goto hB zd94_389 rfl ?_
                        refine zv_wk hB (L' := [.inr 0, .inr 1000, .inl x2, .inl (zi_w (x3 + (-1))), .inl (zi_w (x4 + 1)), .inr 1000, .inr 1000, .inr 1000]) (F' := [.inl f0]) ⟨fun _ => rfl, fun (h : zv_is (.inr 1000)) => (Nat.lt_irrefl 1000 h).elim, fun _ => rfl, fun _ => rfl, fun _ => rfl, fun (h : zv_is (.inr 1000)) => (Nat.lt_irrefl 1000 h).elim, fun (h : zv_is (.inr 1000)) => (Nat.lt_irrefl 1000 h).elim, fun (h : zv_is (.inr 1000)) => (Nat.lt_irrefl 1000 h).elim, trivial⟩ ⟨fun _ => rfl, trivial⟩ ?_
                        exact ih _ _ _ _ _ q h hK
                    replace hc32 : (g0 x4) ≠ 10 := hc32
                    rw [if_neg hc32] at h
                    refine ⟨fun hc34 => ⟨_, rfl, ?_⟩, fun hc34 => ?_⟩
                    · replace hc34 : (g0 x4) = 11 := hc34
                      rw [if_pos hc34] at h
                      refine zv_ald hB zd94_347 rfl rfl rfl ?_
                      refine zv_getr hB zd94_348 rfl ?_
                      refine zv_ild hB zd94_351 rfl rfl ?_
                      refine zv_ild hB zd94_352 rfl rfl ?_
                      refine zv_ild hB zd94_354 rfl rfl ?_
                      refine zv_cle hB zd94_356 rfl (fun hc35 => ?_) (fun hc35 => ?_)
                      · rw [if_neg (Int.not_lt.mpr hc35)] at h
                        refine zv_con hB zd94_363 rfl ?_
                        refine zv_iast hB zd94_364 rfl rfl (zi_ix_ok c26).1 (zi_ix_ok c26).2 ?_
                        refine zv_goto hB zd94_365 rfl ?_
                        refine zv_iincw hB zd94_386 rfl rfl ?_
                        refine zv_goto hB zd94_389 rfl ?_
                        refine zv_wk hB (L' := [.inr 0, .inr 1000, .inl x2, .inl (zi_w (x3 + (-1))), .inl (zi_w (x4 + 1)), .inr 1000, .inr 1000, .inr 1000]) (F' := [.inl f0]) ⟨fun _ => rfl, fun (h : zv_is (.inr 1000)) => (Nat.lt_irrefl 1000 h).elim, fun _ => rfl, fun _ => rfl, fun _ => rfl, fun (h : zv_is (.inr 1000)) => (Nat.lt_irrefl 1000 h).elim, fun (h : zv_is (.inr 1000)) => (Nat.lt_irrefl 1000 h).elim, fun (h : zv_is (.inr 1000)) => (Nat.lt_irrefl 1000 h).elim, trivial⟩ ⟨fun _ => rfl, trivial⟩ ?_
                        exact ih _ _ _ _ _ q h hK
                      · rw [if_pos hc35] at h
                        refine zv_con hB zd94_359 rfl ?_
                        refine zv_goto hB zd94_360 rfl ?_
                        refine zv_iast hB zd94_364 rfl rfl (zi_ix_ok c26).1 (zi_ix_ok c26).2 ?_
                        refine zv_goto hB zd94_365 rfl ?_
                        refine zv_iincw hB zd94_386 rfl rfl ?_
                        refine zv_goto hB zd94_389 rfl ?_
                        refine zv_wk hB (L' := [.inr 0, .inr 1000, .inl x2, .inl (zi_w (x3 + (-1))), .inl (zi_w (x4 + 1)), .inr 1000, .inr 1000, .inr 1000]) (F' := [.inl f0]) ⟨fun _ => rfl, fun (h : zv_is (.inr 1000)) => (Nat.lt_irrefl 1000 h).elim, fun _ => rfl, fun _ => rfl, fun _ => rfl, fun (h : zv_is (.inr 1000)) => (Nat.lt_irrefl 1000 h).elim, fun (h : zv_is (.inr 1000)) => (Nat.lt_irrefl 1000 h).elim, fun (h : zv_is (.inr 1000)) => (Nat.lt_irrefl 1000 h).elim, trivial⟩ ⟨fun _ => rfl, trivial⟩ ?_
                        exact ih _ _ _ _ _ q h hK
                    replace hc34 : (g0 x4) ≠ 11 := hc34
                    rw [if_neg hc34] at h
                    refine ⟨_, rfl, ?_⟩
                    refine zv_ald hB zd94_368 rfl rfl rfl ?_
                    refine zv_getr hB zd94_369 rfl ?_
                    refine zv_ild hB zd94_372 rfl rfl ?_
                    refine zv_ild hB zd94_373 rfl rfl ?_
                    refine zv_ild hB zd94_375 rfl rfl ?_
                    refine zv_cne hB zd94_377 rfl (fun hc36 => ?_) (fun hc36 => ?_)
                    · rw [if_neg hc36] at h
                      refine zv_con hB zd94_384 rfl ?_
                      refine zv_iast hB zd94_385 rfl rfl (zi_ix_ok c26).1 (zi_ix_ok c26).2 ?_
                      refine zv_iincw hB zd94_386 rfl rfl ?_
                      refine zv_goto hB zd94_389 rfl ?_
                      refine zv_wk hB (L' := [.inr 0, .inr 1000, .inl x2, .inl (zi_w (x3 + (-1))), .inl (zi_w (x4 + 1)), .inr 1000, .inr 1000, .inr 1000]) (F' := [.inl f0]) ⟨fun _ => rfl, fun (h : zv_is (.inr 1000)) => (Nat.lt_irrefl 1000 h).elim, fun _ => rfl, fun _ => rfl, fun _ => rfl, fun (h : zv_is (.inr 1000)) => (Nat.lt_irrefl 1000 h).elim, fun (h : zv_is (.inr 1000)) => (Nat.lt_irrefl 1000 h).elim, fun (h : zv_is (.inr 1000)) => (Nat.lt_irrefl 1000 h).elim, trivial⟩ ⟨fun _ => rfl, trivial⟩ ?_
                      exact ih _ _ _ _ _ q h hK
                    · rw [if_pos hc36] at h
                      refine zv_con hB zd94_380 rfl ?_
                      refine zv_goto hB zd94_381 rfl ?_
                      refine zv_iast hB zd94_385 rfl rfl (zi_ix_ok c26).1 (zi_ix_ok c26).2 ?_
                      refine zv_iincw hB zd94_386 rfl rfl ?_
                      refine zv_goto hB zd94_389 rfl ?_
                      refine zv_wk hB (L' := [.inr 0, .inr 1000, .inl x2, .inl (zi_w (x3 + (-1))), .inl (zi_w (x4 + 1)), .inr 1000, .inr 1000, .inr 1000]) (F' := [.inl f0]) ⟨fun _ => rfl, fun (h : zv_is (.inr 1000)) => (Nat.lt_irrefl 1000 h).elim, fun _ => rfl, fun _ => rfl, fun _ => rfl, fun (h : zv_is (.inr 1000)) => (Nat.lt_irrefl 1000 h).elim, fun (h : zv_is (.inr 1000)) => (Nat.lt_irrefl 1000 h).elim, fun (h : zv_is (.inr 1000)) => (Nat.lt_irrefl 1000 h).elim, trivial⟩ ⟨fun _ => rfl, trivial⟩ ?_
                      exact ih _ _ _ _ _ q h hK
                  · rw [if_pos hc25] at h
                    refine zv_con hB zd94_203 rfl ?_
                    have hw : (0, f0, g1) = o := zi_rk (Option.some.inj h) hK
                    subst hw
                    exact hret _ _ _ _ _ zd94_204 (by constructor <;> decide) ⟨rfl, rfl, rfl⟩
            · rw [if_pos hc5] at h
              refine zv_con hB zd94_88 rfl ?_
              have hw : (0, f0, g1) = o := zi_rk (Option.some.inj h) hK
              subst hw
              exact hret _ _ _ _ _ zd94_89 (by constructor <;> decide) ⟨rfl, rfl, rfl⟩
          · rw [if_pos hc4] at h
            refine zv_con hB zd94_80 rfl ?_
            refine zv_goto hB zd94_81 rfl ?_
            refine zv_cge hB zd94_85 rfl (fun hc37 => ?_) (fun hc37 => ?_)
            · rw [if_neg (Int.not_lt.mpr hc37)] at h
              refine zv_ald hB zd94_90 rfl rfl rfl ?_
              refine zv_getr hB zd94_91 rfl ?_
              refine zv_ild hB zd94_94 rfl rfl ?_
              obtain ⟨c38, h⟩ := zi_if h
              refine zv_iald hB zd94_95 rfl rfl (zi_ix_ok c38).1 (zi_ix_ok c38).2 (fun _ _ => ?_)
              refine zv_ist hB zd94_96 rfl rfl rfl ?_
              refine zv_ild hB zd94_98 rfl rfl ?_
              refine zv_con hB zd94_100 rfl ?_
              refine zv_cne hB zd94_101 rfl (fun hc39 => ?_) (fun hc39 => ?_)
              · rw [if_neg hc39] at h
                refine zv_ild hB zd94_123 rfl rfl ?_
                refine zv_con hB zd94_125 rfl ?_
                refine zv_cge hB zd94_126 rfl (fun hc => absurd hc (by omega)) (fun _ => ?_)
                refine zv_ild hB zd94_129 rfl rfl ?_
                refine zv_zeq hB zd94_131 rfl (fun hc41 => ?_) (fun hc41 => ?_)
                · rw [if_pos hc41] at h
                  refine zv_con hB zd94_138 rfl ?_
                  refine zv_ild hB zd94_139 rfl rfl ?_
                  refine zv_con hB zd94_141 rfl ?_
                  refine zv_cne hB zd94_142 rfl (fun hc42 => ?_) (fun hc42 => ?_)
                  · rw [if_neg hc42] at h
                    refine zv_con hB zd94_149 rfl ?_
                    refine zv_cne hB zd94_150 rfl (fun hc => absurd hc (by decide)) (fun _ => ?_)
                    refine zv_ild hB zd94_153 rfl rfl ?_
                    refine zv_ald hB zd94_155 rfl rfl rfl ?_
                    refine zv_getr hB zd94_156 rfl ?_
                    refine zv_ild hB zd94_159 rfl rfl ?_
                    refine zv_iald hB zd94_161 rfl rfl (zi_ix_ok c2).1 (zi_ix_ok c2).2 (fun _ _ => ?_)
                    refine zv_con hB zd94_162 rfl ?_
                    refine zv_subw hB zd94_163 ?_
                    obtain ⟨r44, hr44, h⟩ := zi_bind h
                    refine zv_cs hB (zv_emq (va2 := [.inl x4, .inl (zi_w ((g2 x4) - 1))]) (F := [.inl f0]) (F' := [.inl f0]) (G := [g0, g1, g2, g3]) (G' := [g0, g1, g2, g3]) (ρ := []) (φ := []) (ψ := []) [none] [none, none, none, none] zyw_Math_max zyw_Law_run zye_Law_run (by decide +kernel) (zt_Math_max hr44) trivial trivial rfl rfl rfl rfl rfl rfl rfl) zd94_164 zxt55 rfl (by decide) (by decide) rfl ?_
                    refine zv_ist hB zd94_167 rfl rfl rfl ?_
                    refine zv_goto hB zd94_169 rfl ?_
                    refine zv_iincw hB zd94_386 rfl rfl ?_
                    refine zv_goto hB zd94_389 rfl ?_
                    refine zv_wk hB (L' := [.inr 0, .inr 1000, .inl x2, .inl x3, .inl (zi_w (r44 + 1)), .inr 1000, .inr 1000, .inr 1000]) (F' := [.inl f0]) ⟨fun _ => rfl, fun (h : zv_is (.inr 1000)) => (Nat.lt_irrefl 1000 h).elim, fun _ => rfl, fun _ => rfl, fun _ => rfl, fun (h : zv_is (.inr 1000)) => (Nat.lt_irrefl 1000 h).elim, fun (h : zv_is (.inr 1000)) => (Nat.lt_irrefl 1000 h).elim, fun (h : zv_is (.inr 1000)) => (Nat.lt_irrefl 1000 h).elim, trivial⟩ ⟨fun _ => rfl, trivial⟩ ?_
                    exact ih _ _ _ _ _ q h hK
                  · rw [if_pos hc42] at h
                    refine zv_con hB zd94_145 rfl ?_
                    refine zv_goto hB zd94_146 rfl ?_
                    refine zv_cne hB zd94_150 rfl (fun _ => ?_) (fun hc => absurd hc (by decide))
                    refine zv_iincw hB zd94_172 rfl rfl ?_
                    refine zv_ild hB zd94_175 rfl rfl ?_
                    refine zv_con hB zd94_177 rfl ?_
                    refine zv_cge hB zd94_178 rfl (fun hc => absurd hc (by omega)) (fun _ => ?_)
                    refine zv_goto hB zd94_181 rfl ?_
                    refine zv_iincw hB zd94_386 rfl rfl ?_
                    refine zv_goto hB zd94_389 rfl ?_
                    refine zv_wk hB (L' := [.inr 0, .inr 1000, .inl x2, .inl (zi_w (x3 + (-1))), .inl (zi_w (x4 + 1)), .inr 1000, .inr 1000, .inr 1000]) (F' := [.inl f0]) ⟨fun _ => rfl, fun (h : zv_is (.inr 1000)) => (Nat.lt_irrefl 1000 h).elim, fun _ => rfl, fun _ => rfl, fun _ => rfl, fun (h : zv_is (.inr 1000)) => (Nat.lt_irrefl 1000 h).elim, fun (h : zv_is (.inr 1000)) => (Nat.lt_irrefl 1000 h).elim, fun (h : zv_is (.inr 1000)) => (Nat.lt_irrefl 1000 h).elim, trivial⟩ ⟨fun _ => rfl, trivial⟩ ?_
                    exact ih _ _ _ _ _ q h hK
                · rw [if_neg hc41] at h
                  refine zv_con hB zd94_134 rfl ?_
                  refine zv_goto hB zd94_135 rfl ?_
                  refine zv_ild hB zd94_139 rfl rfl ?_
                  refine zv_con hB zd94_141 rfl ?_
                  refine zv_cne hB zd94_142 rfl (fun hc47 => ?_) (fun hc47 => ?_)
                  · rw [if_neg hc47] at h
                    refine zv_con hB zd94_149 rfl ?_
                    refine zv_cne hB zd94_150 rfl (fun _ => ?_) (fun hc => absurd hc (by decide))
                    refine zv_iincw hB zd94_172 rfl rfl ?_
                    refine zv_ild hB zd94_175 rfl rfl ?_
                    refine zv_con hB zd94_177 rfl ?_
                    refine zv_cge hB zd94_178 rfl (fun hc => absurd hc (by omega)) (fun _ => ?_)
                    refine zv_goto hB zd94_181 rfl ?_
                    refine zv_iincw hB zd94_386 rfl rfl ?_
                    refine zv_goto hB zd94_389 rfl ?_
                    refine zv_wk hB (L' := [.inr 0, .inr 1000, .inl x2, .inl (zi_w (x3 + (-1))), .inl (zi_w (x4 + 1)), .inr 1000, .inr 1000, .inr 1000]) (F' := [.inl f0]) ⟨fun _ => rfl, fun (h : zv_is (.inr 1000)) => (Nat.lt_irrefl 1000 h).elim, fun _ => rfl, fun _ => rfl, fun _ => rfl, fun (h : zv_is (.inr 1000)) => (Nat.lt_irrefl 1000 h).elim, fun (h : zv_is (.inr 1000)) => (Nat.lt_irrefl 1000 h).elim, fun (h : zv_is (.inr 1000)) => (Nat.lt_irrefl 1000 h).elim, trivial⟩ ⟨fun _ => rfl, trivial⟩ ?_
                    exact ih _ _ _ _ _ q h hK
                  · rw [if_pos hc47] at h
                    refine zv_con hB zd94_145 rfl ?_
                    refine zv_goto hB zd94_146 rfl ?_
                    refine zv_cne hB zd94_150 rfl (fun hc => absurd hc (by decide)) (fun _ => ?_)
                    refine zv_ild hB zd94_153 rfl rfl ?_
                    refine zv_ald hB zd94_155 rfl rfl rfl ?_
                    refine zv_getr hB zd94_156 rfl ?_
                    refine zv_ild hB zd94_159 rfl rfl ?_
                    refine zv_iald hB zd94_161 rfl rfl (zi_ix_ok c2).1 (zi_ix_ok c2).2 (fun _ _ => ?_)
                    refine zv_con hB zd94_162 rfl ?_
                    refine zv_subw hB zd94_163 ?_
                    obtain ⟨r51, hr51, h⟩ := zi_bind h
                    refine zv_cs hB (zv_emq (va2 := [.inl x4, .inl (zi_w ((g2 x4) - 1))]) (F := [.inl f0]) (F' := [.inl f0]) (G := [g0, g1, g2, g3]) (G' := [g0, g1, g2, g3]) (ρ := []) (φ := []) (ψ := []) [none] [none, none, none, none] zyw_Math_max zyw_Law_run zye_Law_run (by decide +kernel) (zt_Math_max hr51) trivial trivial rfl rfl rfl rfl rfl rfl rfl) zd94_164 zxt55 rfl (by decide) (by decide) rfl ?_
                    refine zv_ist hB zd94_167 rfl rfl rfl ?_
                    refine zv_goto hB zd94_169 rfl ?_
                    refine zv_iincw hB zd94_386 rfl rfl ?_
                    refine zv_goto hB zd94_389 rfl ?_
                    refine zv_wk hB (L' := [.inr 0, .inr 1000, .inl x2, .inl x3, .inl (zi_w (r51 + 1)), .inr 1000, .inr 1000, .inr 1000]) (F' := [.inl f0]) ⟨fun _ => rfl, fun (h : zv_is (.inr 1000)) => (Nat.lt_irrefl 1000 h).elim, fun _ => rfl, fun _ => rfl, fun _ => rfl, fun (h : zv_is (.inr 1000)) => (Nat.lt_irrefl 1000 h).elim, fun (h : zv_is (.inr 1000)) => (Nat.lt_irrefl 1000 h).elim, fun (h : zv_is (.inr 1000)) => (Nat.lt_irrefl 1000 h).elim, trivial⟩ ⟨fun _ => rfl, trivial⟩ ?_
                    exact ih _ _ _ _ _ q h hK
              · rw [if_pos hc39] at h
                refine zv_ald hB zd94_104 rfl rfl rfl ?_
                refine zv_getr hB zd94_105 rfl ?_
                refine zv_ild hB zd94_108 rfl rfl ?_
                refine zv_ild hB zd94_109 rfl rfl ?_
                refine zv_zne hB zd94_111 rfl (fun hc52 => ?_) (fun hc52 => ?_)
                · rw [if_neg hc52] at h
                  refine zv_con hB zd94_118 rfl ?_
                  refine zv_iast hB zd94_119 rfl rfl (zi_ix_ok c38).1 (zi_ix_ok c38).2 ?_
                  refine zv_goto hB zd94_120 rfl ?_
                  refine zv_iincw hB zd94_386 rfl rfl ?_
                  refine zv_goto hB zd94_389 rfl ?_
                  refine zv_wk hB (L' := [.inr 0, .inr 1000, .inl x2, .inl x3, .inl (zi_w (x4 + 1)), .inr 1000, .inr 1000, .inr 1000]) (F' := [.inl f0]) ⟨fun _ => rfl, fun (h : zv_is (.inr 1000)) => (Nat.lt_irrefl 1000 h).elim, fun _ => rfl, fun _ => rfl, fun _ => rfl, fun (h : zv_is (.inr 1000)) => (Nat.lt_irrefl 1000 h).elim, fun (h : zv_is (.inr 1000)) => (Nat.lt_irrefl 1000 h).elim, fun (h : zv_is (.inr 1000)) => (Nat.lt_irrefl 1000 h).elim, trivial⟩ ⟨fun _ => rfl, trivial⟩ ?_
                  exact ih _ _ _ _ _ q h hK
                · rw [if_pos hc52] at h
                  refine zv_con hB zd94_114 rfl ?_
                  refine zv_goto hB zd94_115 rfl ?_
                  refine zv_iast hB zd94_119 rfl rfl (zi_ix_ok c38).1 (zi_ix_ok c38).2 ?_
                  refine zv_goto hB zd94_120 rfl ?_
                  refine zv_iincw hB zd94_386 rfl rfl ?_
                  refine zv_goto hB zd94_389 rfl ?_
                  refine zv_wk hB (L' := [.inr 0, .inr 1000, .inl x2, .inl x3, .inl (zi_w (x4 + 1)), .inr 1000, .inr 1000, .inr 1000]) (F' := [.inl f0]) ⟨fun _ => rfl, fun (h : zv_is (.inr 1000)) => (Nat.lt_irrefl 1000 h).elim, fun _ => rfl, fun _ => rfl, fun _ => rfl, fun (h : zv_is (.inr 1000)) => (Nat.lt_irrefl 1000 h).elim, fun (h : zv_is (.inr 1000)) => (Nat.lt_irrefl 1000 h).elim, fun (h : zv_is (.inr 1000)) => (Nat.lt_irrefl 1000 h).elim, trivial⟩ ⟨fun _ => rfl, trivial⟩ ?_
                  exact ih _ _ _ _ _ q h hK
            · rw [if_pos hc37] at h
              refine zv_con hB zd94_88 rfl ?_
              have hw : (0, f0, g1) = o := zi_rk (Option.some.inj h) hK
              subst hw
              exact hret _ _ _ _ _ zd94_89 (by constructor <;> decide) ⟨rfl, rfl, rfl⟩
        · rw [if_neg (Int.not_lt.mpr hc3)] at h
          refine zv_iincw hB zd94_26 rfl rfl ?_
          refine zv_ild hB zd94_29 rfl rfl ?_
          refine zv_con hB zd94_30 rfl ?_
          refine zv_clt hB zd94_32 rfl (fun hc53 => ?_) (fun hc53 => ?_)
          · rw [if_pos hc53] at h
            refine zv_ald hB zd94_37 rfl rfl rfl ?_
            refine zv_getr hB zd94_38 rfl ?_
            refine zv_ild hB zd94_41 rfl rfl ?_
            refine zv_ild hB zd94_42 rfl rfl ?_
            refine zv_zne hB zd94_44 rfl (fun hc54 => ?_) (fun hc54 => ?_)
            · rw [if_neg hc54] at h
              refine zv_ald hB zd94_57 rfl rfl rfl ?_
              refine zv_getr hB zd94_58 rfl ?_
              refine zv_ald hB zd94_61 rfl rfl rfl ?_
              refine zv_getr hB zd94_62 rfl ?_
              refine zv_ild hB zd94_65 rfl rfl ?_
              refine zv_iald hB zd94_67 rfl rfl (zi_ix_ok c2).1 (zi_ix_ok c2).2 (fun _ _ => ?_)
              obtain ⟨c55, h⟩ := zi_if h
              refine zv_iald hB zd94_68 rfl rfl (zi_ix_ok c55).1 (zi_ix_ok c55).2 (fun _ _ => ?_)
              obtain ⟨c56, h⟩ := zi_if h
              refine zv_iast hB zd94_69 rfl rfl (zi_ix_ok c56).1 (zi_ix_ok c56).2 ?_
              refine zv_goto hB zd94_70 rfl ?_
              refine zv_iincw hB zd94_386 rfl rfl ?_
              refine zv_goto hB zd94_389 rfl ?_
              refine zv_wk hB (L' := [.inr 0, .inr 1000, .inl x2, .inl (zi_w (x3 + 1)), .inl (zi_w (x4 + 1)), .inr 1000, .inr 1000, .inr 1000]) (F' := [.inl f0]) ⟨fun _ => rfl, fun (h : zv_is (.inr 1000)) => (Nat.lt_irrefl 1000 h).elim, fun _ => rfl, fun _ => rfl, fun _ => rfl, fun (h : zv_is (.inr 1000)) => (Nat.lt_irrefl 1000 h).elim, fun (h : zv_is (.inr 1000)) => (Nat.lt_irrefl 1000 h).elim, fun (h : zv_is (.inr 1000)) => (Nat.lt_irrefl 1000 h).elim, trivial⟩ ⟨fun _ => rfl, trivial⟩ ?_
              exact ih _ _ _ _ _ q h hK
            · rw [if_pos hc54] at h
              refine zv_ald hB zd94_47 rfl rfl rfl ?_
              refine zv_getr hB zd94_48 rfl ?_
              refine zv_ild hB zd94_51 rfl rfl ?_
              refine zv_iald hB zd94_53 rfl rfl (zi_ix_ok c2).1 (zi_ix_ok c2).2 (fun _ _ => ?_)
              refine zv_goto hB zd94_54 rfl ?_
              obtain ⟨c57, h⟩ := zi_if h
              refine zv_iast hB zd94_69 rfl rfl (zi_ix_ok c57).1 (zi_ix_ok c57).2 ?_
              refine zv_goto hB zd94_70 rfl ?_
              refine zv_iincw hB zd94_386 rfl rfl ?_
              refine zv_goto hB zd94_389 rfl ?_
              refine zv_wk hB (L' := [.inr 0, .inr 1000, .inl x2, .inl (zi_w (x3 + 1)), .inl (zi_w (x4 + 1)), .inr 1000, .inr 1000, .inr 1000]) (F' := [.inl f0]) ⟨fun _ => rfl, fun (h : zv_is (.inr 1000)) => (Nat.lt_irrefl 1000 h).elim, fun _ => rfl, fun _ => rfl, fun _ => rfl, fun (h : zv_is (.inr 1000)) => (Nat.lt_irrefl 1000 h).elim, fun (h : zv_is (.inr 1000)) => (Nat.lt_irrefl 1000 h).elim, fun (h : zv_is (.inr 1000)) => (Nat.lt_irrefl 1000 h).elim, trivial⟩ ⟨fun _ => rfl, trivial⟩ ?_
              exact ih _ _ _ _ _ q h hK
          · rw [if_neg (Int.not_lt.mpr hc53)] at h
            refine zv_con hB zd94_35 rfl ?_
            have hw : (0, f0, g1) = o := zi_rk (Option.some.inj h) hK
            subst hw
            exact hret _ _ _ _ _ zd94_36 (by constructor <;> decide) ⟨rfl, rfl, rfl⟩
  unfold zf_Law_run at h
  refine zv_con hB zd94_0 rfl ?_
  refine zv_ist hB zd94_1 rfl rfl rfl ?_
  refine zv_ild hB zd94_2 rfl rfl ?_
  refine zv_ist hB zd94_3 rfl rfl rfl ?_
  obtain ⟨q58, hq58, h⟩ := zi_bind h
  refine zv_wk hB (L' := [.inr 0, .inr 1000, .inl x2, .inl (-1), .inl x1, .inr 1000, .inr 1000, .inr 1000]) (F' := [.inl f0]) ⟨fun _ => rfl, fun (h : zv_is (.inr 1000)) => (Nat.lt_irrefl 1000 h).elim, fun _ => rfl, fun _ => rfl, fun _ => rfl, fun (h : zv_is (.inr 1000)) => (Nat.lt_irrefl 1000 h).elim, fun (h : zv_is (.inr 1000)) => (Nat.lt_irrefl 1000 h).elim, fun (h : zv_is (.inr 1000)) => (Nat.lt_irrefl 1000 h).elim, trivial⟩ ⟨fun _ => rfl, trivial⟩ ?_
  refine l0 _ _ _ _ _ _ q58 hq58 ?_
  rcases q58 with e59 | w62
  · replace h := zi_sl h
    show good 392 [.inr 0, .inr 1000, .inr 1000, .inl e59.1, .inr 1000, .inr 1000, .inr 1000, .inr 1000] [] [.inl f0] [g0, e59.2, g2, g3]
    refine zv_ald hB zd94_392 rfl rfl rfl ?_
    refine zv_ild hB zd94_393 rfl rfl ?_
    refine zv_zge hB zd94_394 rfl (fun hc60 => ?_) (fun hc60 => ?_)
    · rw [if_neg (Int.not_lt.mpr hc60)] at h
      refine zv_ald hB zd94_401 rfl rfl rfl ?_
      refine zv_getr hB zd94_402 rfl ?_
      refine zv_ild hB zd94_405 rfl rfl ?_
      obtain ⟨c61, h⟩ := zi_if h
      refine zv_iald hB zd94_406 rfl rfl (zi_ix_ok c61).1 (zi_ix_ok c61).2 (fun _ _ => ?_)
      refine zv_putf hB zd94_407 rfl rfl (fun h => by cases h) rfl ?_
      refine zv_con hB zd94_410 rfl ?_
      have hw := Option.some.inj h
      subst hw
      exact hret _ _ _ _ _ zd94_411 (by constructor <;> decide) ⟨rfl, rfl, rfl⟩
    · rw [if_pos hc60] at h
      refine zv_con hB zd94_397 rfl ?_
      refine zv_goto hB zd94_398 rfl ?_
      refine zv_putf hB zd94_407 rfl rfl (fun h => by cases h) rfl ?_
      refine zv_con hB zd94_410 rfl ?_
      have hw := Option.some.inj h
      subst hw
      exact hret _ _ _ _ _ zd94_411 (by constructor <;> decide) ⟨rfl, rfl, rfl⟩
  · exact Option.some.inj h
