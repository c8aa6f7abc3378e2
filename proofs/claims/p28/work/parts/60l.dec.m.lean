/-! 60l.dec, 60m.dec, 60n.dec, 60o.dec -/
section
/-! Methods as functions, and that they do what these do. -/
/-! Law_run (II)Z -/
-- names: 0 Law('arg', 0), 1 (0, 200)(0, 4, 0), 2 (0, 40)(0, 4, 13), 3 (0, 200)(0, 4, 1), 4 (0, 13)(0, 4, 12)
-- fields: f0 = 0.answer_; arrays: g0 = 1, g1 = 2, g2 = 3, g3 = 4; out: [('ret', None), ('f', 0), ('g', 1)]
abbrev zy_Law_run : zNL := (5, [(0, 4)], [(0, 4, 14, 0)], [(0, 4, 0, 1), (0, 4, 13, 2), (0, 4, 1, 3), (0, 4, 12, 4)], [(1, 0, 200, 0), (2, 0, 40, 1), (3, 0, 200, 2), (4, 0, 13, 3)])
theorem zyw_Law_run : zv_wf zy_Law_run = true := by decide +kernel
theorem zye_Law_run : zv_ek2 zy_Law_run = true := by decide +kernel
def zf_Law_run_l0_b (x2 : Int) (f0 : Int) (g0 : (Int → Int)) (g2 : (Int → Int)) (g3 : (Int → Int)) (rec : Int → Int → (Int → Int) → Option (((Int × (Int → Int)) ⊕ (Int × Int × (Int → Int))))) (x3 : Int) (x4 : Int) (g1 : (Int → Int)) : Option (((Int × (Int → Int)) ⊕ (Int × Int × (Int → Int)))) := if x4 < x2 then (cond (zi_ix x4 200) (if 1 < (g0 x4) then (if (g0 x4) < 5 then (if x3 < 0 then (some (.inr (0, f0, g1))) else (cond (zi_ix x3 40) (if (g0 x4) = 2 then (if (g1 x3) = 0 then (rec x3 (zi_w (x4 + 1)) (zv_up g1 x3 1)) else (rec x3 (zi_w (x4 + 1)) (zv_up g1 x3 0))) else (if (g1 x3) = 0 then (if (g0 x4) = 3 then (rec (zi_w (x3 + (-1))) (zi_w (x4 + 1)) g1) else ((zf_Math_max x4 (zi_w ((g2 x4) - 1))).bind fun r44 => (rec x3 (zi_w (r44 + 1)) g1))) else (if (g0 x4) = 3 then ((zf_Math_max x4 (zi_w ((g2 x4) - 1))).bind fun r51 => (rec x3 (zi_w (r51 + 1)) g1)) else (rec (zi_w (x3 + (-1))) (zi_w (x4 + 1)) g1)))) none)) else (if x3 < 1 then (some (.inr (0, f0, g1))) else (cond (zi_ix x3 40) (if (g1 x3) = 0 then (if (g0 x4) = 8 then (some (.inr (0, f0, g1))) else (if (g0 x4) = 9 then (some (.inr (0, f0, g1))) else (cond (zi_ix (zi_w (x3 + (-1))) 40) (if (g0 x4) = 5 then (rec (zi_w (x3 + (-1))) (zi_w (x4 + 1)) (zv_up g1 (zi_w (x3 + (-1))) (zi_w ((g1 (zi_w (x3 + (-1)))) + (g1 x3))))) else (if (g0 x4) = 6 then (rec (zi_w (x3 + (-1))) (zi_w (x4 + 1)) (zv_up g1 (zi_w (x3 + (-1))) (zi_w ((g1 (zi_w (x3 + (-1)))) - (g1 x3))))) else (if (g0 x4) = 7 then (rec (zi_w (x3 + (-1))) (zi_w (x4 + 1)) (zv_up g1 (zi_w (x3 + (-1))) (zi_w ((g1 (zi_w (x3 + (-1)))) * (g1 x3))))) else (if (g0 x4) = 10 then (if (g1 (zi_w (x3 + (-1)))) < (g1 x3) then (rec (zi_w (x3 + (-1))) (zi_w (x4 + 1)) (zv_up g1 (zi_w (x3 + (-1))) 1)) else (rec (zi_w (x3 + (-1))) (zi_w (x4 + 1)) (zv_up g1 (zi_w (x3 + (-1))) 0))) else (if (g0 x4) = 11 then (if (g1 x3) < (g1 (zi_w (x3 + (-1)))) then (rec (zi_w (x3 + (-1))) (zi_w (x4 + 1)) (zv_up g1 (zi_w (x3 + (-1))) 1)) else (rec (zi_w (x3 + (-1))) (zi_w (x4 + 1)) (zv_up g1 (zi_w (x3 + (-1))) 0))) else (if (g1 (zi_w (x3 + (-1)))) = (g1 x3) then (rec (zi_w (x3 + (-1))) (zi_w (x4 + 1)) (zv_up g1 (zi_w (x3 + (-1))) 1)) else (rec (zi_w (x3 + (-1))) (zi_w (x4 + 1)) (zv_up g1 (zi_w (x3 + (-1))) 0)))))))) none))) else (cond (zi_ix (zi_w (x3 + (-1))) 40) (if (g0 x4) = 5 then (rec (zi_w (x3 + (-1))) (zi_w (x4 + 1)) (zv_up g1 (zi_w (x3 + (-1))) (zi_w ((g1 (zi_w (x3 + (-1)))) + (g1 x3))))) else (if (g0 x4) = 6 then (rec (zi_w (x3 + (-1))) (zi_w (x4 + 1)) (zv_up g1 (zi_w (x3 + (-1))) (zi_w ((g1 (zi_w (x3 + (-1)))) - (g1 x3))))) else (if (g0 x4) = 7 then (rec (zi_w (x3 + (-1))) (zi_w (x4 + 1)) (zv_up g1 (zi_w (x3 + (-1))) (zi_w ((g1 (zi_w (x3 + (-1)))) * (g1 x3))))) else (if (g0 x4) = 8 then (cond (zi_ne (g1 x3)) (rec (zi_w (x3 + (-1))) (zi_w (x4 + 1)) (zv_up g1 (zi_w (x3 + (-1))) (zi_div (g1 (zi_w (x3 + (-1)))) (g1 x3)))) none) else (if (g0 x4) = 9 then (cond (zi_ne (g1 x3)) (rec (zi_w (x3 + (-1))) (zi_w (x4 + 1)) (zv_up g1 (zi_w (x3 + (-1))) (zi_rem (g1 (zi_w (x3 + (-1)))) (g1 x3)))) none) else (if (g0 x4) = 10 then (if (g1 (zi_w (x3 + (-1)))) < (g1 x3) then (rec (zi_w (x3 + (-1))) (zi_w (x4 + 1)) (zv_up g1 (zi_w (x3 + (-1))) 1)) else (rec (zi_w (x3 + (-1))) (zi_w (x4 + 1)) (zv_up g1 (zi_w (x3 + (-1))) 0))) else (if (g0 x4) = 11 then (if (g1 x3) < (g1 (zi_w (x3 + (-1)))) then (rec (zi_w (x3 + (-1))) (zi_w (x4 + 1)) (zv_up g1 (zi_w (x3 + (-1))) 1)) else (rec (zi_w (x3 + (-1))) (zi_w (x4 + 1)) (zv_up g1 (zi_w (x3 + (-1))) 0))) else (if (g1 (zi_w (x3 + (-1)))) = (g1 x3) then (rec (zi_w (x3 + (-1))) (zi_w (x4 + 1)) (zv_up g1 (zi_w (x3 + (-1))) 1)) else (rec (zi_w (x3 + (-1))) (zi_w (x4 + 1)) (zv_up g1 (zi_w (x3 + (-1))) 0)))))))))) none)) none))) else (if (zi_w (x3 + 1)) < 40 then (if (g0 x4) = 0 then (cond (zi_ix (zi_w (x3 + 1)) 40) (rec (zi_w (x3 + 1)) (zi_w (x4 + 1)) (zv_up g1 (zi_w (x3 + 1)) (g2 x4))) none) else (cond (zi_ix (g2 x4) 13) (cond (zi_ix (zi_w (x3 + 1)) 40) (rec (zi_w (x3 + 1)) (zi_w (x4 + 1)) (zv_up g1 (zi_w (x3 + 1)) (g3 (g2 x4)))) none) none)) else (some (.inr (0, f0, g1))))) none) else (some (.inl (x3, g1)))
def zf_Law_run_l0 (x2 : Int) (f0 : Int) (g0 : (Int → Int)) (g2 : (Int → Int)) (g3 : (Int → Int)) : Nat → Int → Int → (Int → Int) → Option (((Int × (Int → Int)) ⊕ (Int × Int × (Int → Int))))
  | 0, _, _, _ => none
  | n + 1, x3, x4, g1 => zf_Law_run_l0_b x2 f0 g0 g2 g3 (zf_Law_run_l0 x2 f0 g0 g2 g3 n) x3 x4 g1
def zf_Law_run (x1 : Int) (x2 : Int) (f0 : Int) (g0 : (Int → Int)) (g1 : (Int → Int)) (g2 : (Int → Int)) (g3 : (Int → Int)) : Option (Int × Int × (Int → Int)) := (zf_Law_run_l0 x2 f0 g0 g2 g3 zi_fu (-1) x1 g1).bind fun q58 => Sum.elim (fun e59 => (if e59.1 < 0 then (some (1, 0, e59.2)) else (cond (zi_ix e59.1 40) (some (1, (e59.2 e59.1), e59.2)) none))) (fun w62 => some w62) q58
theorem zd94_0 : decode zxm94.2.1 0 = .ok (.iconst (-1), 1) := by decide +kernel
theorem zd94_1 : decode zxm94.2.1 1 = .ok (.istore_n 3, 1) := by decide +kernel
theorem zd94_2 : decode zxm94.2.1 2 = .ok (.iload_n 1, 1) := by decide +kernel
theorem zd94_3 : decode zxm94.2.1 3 = .ok (.istore 4, 2) := by decide +kernel
theorem zd94_5 : decode zxm94.2.1 5 = .ok (.iload 4, 2) := by decide +kernel
theorem zd94_7 : decode zxm94.2.1 7 = .ok (.iload_n 2, 1) := by decide +kernel
theorem zd94_8 : decode zxm94.2.1 8 = .ok (.if_icmp .ge 384, 3) := by decide +kernel
theorem zd94_11 : decode zxm94.2.1 11 = .ok (.aload_n 0, 1) := by decide +kernel
theorem zd94_12 : decode zxm94.2.1 12 = .ok (.getfield 9, 3) := by decide +kernel
theorem zd94_15 : decode zxm94.2.1 15 = .ok (.iload 4, 2) := by decide +kernel
theorem zd94_17 : decode zxm94.2.1 17 = .ok (.iaload, 1) := by decide +kernel
theorem zd94_18 : decode zxm94.2.1 18 = .ok (.istore 5, 2) := by decide +kernel
theorem zd94_20 : decode zxm94.2.1 20 = .ok (.iload 5, 2) := by decide +kernel
theorem zd94_22 : decode zxm94.2.1 22 = .ok (.iconst 1, 1) := by decide +kernel
theorem zd94_23 : decode zxm94.2.1 23 = .ok (.if_icmp .gt 50, 3) := by decide +kernel
theorem zd94_26 : decode zxm94.2.1 26 = .ok (.iinc 3 1, 3) := by decide +kernel
theorem zd94_29 : decode zxm94.2.1 29 = .ok (.iload_n 3, 1) := by decide +kernel
theorem zd94_30 : decode zxm94.2.1 30 = .ok (.bipush 40, 2) := by decide +kernel
theorem zd94_32 : decode zxm94.2.1 32 = .ok (.if_icmp .lt 5, 3) := by decide +kernel
theorem zd94_35 : decode zxm94.2.1 35 = .ok (.iconst 0, 1) := by decide +kernel
theorem zd94_36 : decode zxm94.2.1 36 = .ok (.ireturn, 1) := by decide +kernel
theorem zd94_37 : decode zxm94.2.1 37 = .ok (.aload_n 0, 1) := by decide +kernel
theorem zd94_38 : decode zxm94.2.1 38 = .ok (.getfield 59, 3) := by decide +kernel
theorem zd94_41 : decode zxm94.2.1 41 = .ok (.iload_n 3, 1) := by decide +kernel
theorem zd94_42 : decode zxm94.2.1 42 = .ok (.iload 5, 2) := by decide +kernel
theorem zd94_44 : decode zxm94.2.1 44 = .ok (.ifCond .ne 13, 3) := by decide +kernel
theorem zd94_47 : decode zxm94.2.1 47 = .ok (.aload_n 0, 1) := by decide +kernel
theorem zd94_48 : decode zxm94.2.1 48 = .ok (.getfield 13, 3) := by decide +kernel
theorem zd94_51 : decode zxm94.2.1 51 = .ok (.iload 4, 2) := by decide +kernel
theorem zd94_53 : decode zxm94.2.1 53 = .ok (.iaload, 1) := by decide +kernel
theorem zd94_54 : decode zxm94.2.1 54 = .ok (.goto 15, 3) := by decide +kernel
theorem zd94_57 : decode zxm94.2.1 57 = .ok (.aload_n 0, 1) := by decide +kernel
theorem zd94_58 : decode zxm94.2.1 58 = .ok (.getfield 56, 3) := by decide +kernel
theorem zd94_61 : decode zxm94.2.1 61 = .ok (.aload_n 0, 1) := by decide +kernel
theorem zd94_62 : decode zxm94.2.1 62 = .ok (.getfield 13, 3) := by decide +kernel
theorem zd94_65 : decode zxm94.2.1 65 = .ok (.iload 4, 2) := by decide +kernel
theorem zd94_67 : decode zxm94.2.1 67 = .ok (.iaload, 1) := by decide +kernel
theorem zd94_68 : decode zxm94.2.1 68 = .ok (.iaload, 1) := by decide +kernel
theorem zd94_69 : decode zxm94.2.1 69 = .ok (.iastore, 1) := by decide +kernel
theorem zd94_70 : decode zxm94.2.1 70 = .ok (.goto 316, 3) := by decide +kernel
theorem zd94_73 : decode zxm94.2.1 73 = .ok (.iload_n 3, 1) := by decide +kernel
theorem zd94_74 : decode zxm94.2.1 74 = .ok (.iload 5, 2) := by decide +kernel
theorem zd94_76 : decode zxm94.2.1 76 = .ok (.iconst 5, 1) := by decide +kernel
theorem zd94_77 : decode zxm94.2.1 77 = .ok (.if_icmp .ge 7, 3) := by decide +kernel
theorem zd94_80 : decode zxm94.2.1 80 = .ok (.iconst 0, 1) := by decide +kernel
theorem zd94_81 : decode zxm94.2.1 81 = .ok (.goto 4, 3) := by decide +kernel
theorem zd94_84 : decode zxm94.2.1 84 = .ok (.iconst 1, 1) := by decide +kernel
theorem zd94_85 : decode zxm94.2.1 85 = .ok (.if_icmp .ge 5, 3) := by decide +kernel
theorem zd94_88 : decode zxm94.2.1 88 = .ok (.iconst 0, 1) := by decide +kernel
theorem zd94_89 : decode zxm94.2.1 89 = .ok (.ireturn, 1) := by decide +kernel
theorem zd94_90 : decode zxm94.2.1 90 = .ok (.aload_n 0, 1) := by decide +kernel
theorem zd94_91 : decode zxm94.2.1 91 = .ok (.getfield 59, 3) := by decide +kernel
theorem zd94_94 : decode zxm94.2.1 94 = .ok (.iload_n 3, 1) := by decide +kernel
theorem zd94_95 : decode zxm94.2.1 95 = .ok (.iaload, 1) := by decide +kernel
theorem zd94_96 : decode zxm94.2.1 96 = .ok (.istore 6, 2) := by decide +kernel
theorem zd94_98 : decode zxm94.2.1 98 = .ok (.iload 5, 2) := by decide +kernel
theorem zd94_100 : decode zxm94.2.1 100 = .ok (.iconst 2, 1) := by decide +kernel
theorem zd94_101 : decode zxm94.2.1 101 = .ok (.if_icmp .ne 22, 3) := by decide +kernel
theorem zd94_104 : decode zxm94.2.1 104 = .ok (.aload_n 0, 1) := by decide +kernel
theorem zd94_105 : decode zxm94.2.1 105 = .ok (.getfield 59, 3) := by decide +kernel
theorem zd94_108 : decode zxm94.2.1 108 = .ok (.iload_n 3, 1) := by decide +kernel
theorem zd94_109 : decode zxm94.2.1 109 = .ok (.iload 6, 2) := by decide +kernel
theorem zd94_111 : decode zxm94.2.1 111 = .ok (.ifCond .ne 7, 3) := by decide +kernel
theorem zd94_114 : decode zxm94.2.1 114 = .ok (.iconst 1, 1) := by decide +kernel
theorem zd94_115 : decode zxm94.2.1 115 = .ok (.goto 4, 3) := by decide +kernel
theorem zd94_118 : decode zxm94.2.1 118 = .ok (.iconst 0, 1) := by decide +kernel
theorem zd94_119 : decode zxm94.2.1 119 = .ok (.iastore, 1) := by decide +kernel
theorem zd94_120 : decode zxm94.2.1 120 = .ok (.goto 266, 3) := by decide +kernel
theorem zd94_123 : decode zxm94.2.1 123 = .ok (.iload 5, 2) := by decide +kernel
theorem zd94_125 : decode zxm94.2.1 125 = .ok (.iconst 5, 1) := by decide +kernel
theorem zd94_126 : decode zxm94.2.1 126 = .ok (.if_icmp .ge 46, 3) := by decide +kernel
theorem zd94_129 : decode zxm94.2.1 129 = .ok (.iload 6, 2) := by decide +kernel
theorem zd94_131 : decode zxm94.2.1 131 = .ok (.ifCond .eq 7, 3) := by decide +kernel
theorem zd94_134 : decode zxm94.2.1 134 = .ok (.iconst 1, 1) := by decide +kernel
theorem zd94_135 : decode zxm94.2.1 135 = .ok (.goto 4, 3) := by decide +kernel
theorem zd94_138 : decode zxm94.2.1 138 = .ok (.iconst 0, 1) := by decide +kernel
theorem zd94_139 : decode zxm94.2.1 139 = .ok (.iload 5, 2) := by decide +kernel
theorem zd94_141 : decode zxm94.2.1 141 = .ok (.iconst 3, 1) := by decide +kernel
theorem zd94_142 : decode zxm94.2.1 142 = .ok (.if_icmp .ne 7, 3) := by decide +kernel
theorem zd94_145 : decode zxm94.2.1 145 = .ok (.iconst 1, 1) := by decide +kernel
theorem zd94_146 : decode zxm94.2.1 146 = .ok (.goto 4, 3) := by decide +kernel
theorem zd94_149 : decode zxm94.2.1 149 = .ok (.iconst 0, 1) := by decide +kernel
theorem zd94_150 : decode zxm94.2.1 150 = .ok (.if_icmp .ne 22, 3) := by decide +kernel
theorem zd94_153 : decode zxm94.2.1 153 = .ok (.iload 4, 2) := by decide +kernel
theorem zd94_155 : decode zxm94.2.1 155 = .ok (.aload_n 0, 1) := by decide +kernel
theorem zd94_156 : decode zxm94.2.1 156 = .ok (.getfield 13, 3) := by decide +kernel
theorem zd94_159 : decode zxm94.2.1 159 = .ok (.iload 4, 2) := by decide +kernel
theorem zd94_161 : decode zxm94.2.1 161 = .ok (.iaload, 1) := by decide +kernel
theorem zd94_162 : decode zxm94.2.1 162 = .ok (.iconst 1, 1) := by decide +kernel
theorem zd94_163 : decode zxm94.2.1 163 = .ok (.isub, 1) := by decide +kernel
theorem zd94_164 : decode zxm94.2.1 164 = .ok (.invokestatic 102, 3) := by decide +kernel
theorem zd94_167 : decode zxm94.2.1 167 = .ok (.istore 4, 2) := by decide +kernel
theorem zd94_169 : decode zxm94.2.1 169 = .ok (.goto 217, 3) := by decide +kernel
theorem zd94_172 : decode zxm94.2.1 172 = .ok (.iinc 3 (-1), 3) := by decide +kernel
theorem zd94_175 : decode zxm94.2.1 175 = .ok (.iload 5, 2) := by decide +kernel
theorem zd94_177 : decode zxm94.2.1 177 = .ok (.iconst 5, 1) := by decide +kernel
theorem zd94_178 : decode zxm94.2.1 178 = .ok (.if_icmp .ge 6, 3) := by decide +kernel
theorem zd94_181 : decode zxm94.2.1 181 = .ok (.goto 205, 3) := by decide +kernel
theorem zd94_184 : decode zxm94.2.1 184 = .ok (.iload 6, 2) := by decide +kernel
theorem zd94_186 : decode zxm94.2.1 186 = .ok (.ifCond .ne 19, 3) := by decide +kernel
theorem zd94_189 : decode zxm94.2.1 189 = .ok (.iload 5, 2) := by decide +kernel
theorem zd94_191 : decode zxm94.2.1 191 = .ok (.bipush 8, 2) := by decide +kernel
theorem zd94_193 : decode zxm94.2.1 193 = .ok (.if_icmp .eq 10, 3) := by decide +kernel
theorem zd94_196 : decode zxm94.2.1 196 = .ok (.iload 5, 2) := by decide +kernel
theorem zd94_198 : decode zxm94.2.1 198 = .ok (.bipush 9, 2) := by decide +kernel
theorem zd94_200 : decode zxm94.2.1 200 = .ok (.if_icmp .ne 5, 3) := by decide +kernel
theorem zd94_203 : decode zxm94.2.1 203 = .ok (.iconst 0, 1) := by decide +kernel
theorem zd94_204 : decode zxm94.2.1 204 = .ok (.ireturn, 1) := by decide +kernel
theorem zd94_205 : decode zxm94.2.1 205 = .ok (.aload_n 0, 1) := by decide +kernel
theorem zd94_206 : decode zxm94.2.1 206 = .ok (.getfield 59, 3) := by decide +kernel
theorem zd94_209 : decode zxm94.2.1 209 = .ok (.iload_n 3, 1) := by decide +kernel
theorem zd94_210 : decode zxm94.2.1 210 = .ok (.iaload, 1) := by decide +kernel
theorem zd94_211 : decode zxm94.2.1 211 = .ok (.istore 7, 2) := by decide +kernel
theorem zd94_213 : decode zxm94.2.1 213 = .ok (.iload 5, 2) := by decide +kernel
theorem zd94_215 : decode zxm94.2.1 215 = .ok (.tableswitch 153 5 11 #[41, 55, 69, 83, 97, 111, 132], 41) := by decide +kernel
theorem zd94_256 : decode zxm94.2.1 256 = .ok (.aload_n 0, 1) := by decide +kernel
theorem zd94_257 : decode zxm94.2.1 257 = .ok (.getfield 59, 3) := by decide +kernel
theorem zd94_260 : decode zxm94.2.1 260 = .ok (.iload_n 3, 1) := by decide +kernel
theorem zd94_261 : decode zxm94.2.1 261 = .ok (.iload 7, 2) := by decide +kernel
theorem zd94_263 : decode zxm94.2.1 263 = .ok (.iload 6, 2) := by decide +kernel
theorem zd94_265 : decode zxm94.2.1 265 = .ok (.iadd, 1) := by decide +kernel
theorem zd94_266 : decode zxm94.2.1 266 = .ok (.iastore, 1) := by decide +kernel
theorem zd94_267 : decode zxm94.2.1 267 = .ok (.goto 119, 3) := by decide +kernel
theorem zd94_270 : decode zxm94.2.1 270 = .ok (.aload_n 0, 1) := by decide +kernel
theorem zd94_271 : decode zxm94.2.1 271 = .ok (.getfield 59, 3) := by decide +kernel
theorem zd94_274 : decode zxm94.2.1 274 = .ok (.iload_n 3, 1) := by decide +kernel
theorem zd94_275 : decode zxm94.2.1 275 = .ok (.iload 7, 2) := by decide +kernel
theorem zd94_277 : decode zxm94.2.1 277 = .ok (.iload 6, 2) := by decide +kernel
theorem zd94_279 : decode zxm94.2.1 279 = .ok (.isub, 1) := by decide +kernel
theorem zd94_280 : decode zxm94.2.1 280 = .ok (.iastore, 1) := by decide +kernel
theorem zd94_281 : decode zxm94.2.1 281 = .ok (.goto 105, 3) := by decide +kernel
theorem zd94_284 : decode zxm94.2.1 284 = .ok (.aload_n 0, 1) := by decide +kernel
theorem zd94_285 : decode zxm94.2.1 285 = .ok (.getfield 59, 3) := by decide +kernel
theorem zd94_288 : decode zxm94.2.1 288 = .ok (.iload_n 3, 1) := by decide +kernel
theorem zd94_289 : decode zxm94.2.1 289 = .ok (.iload 7, 2) := by decide +kernel
theorem zd94_291 : decode zxm94.2.1 291 = .ok (.iload 6, 2) := by decide +kernel
theorem zd94_293 : decode zxm94.2.1 293 = .ok (.imul, 1) := by decide +kernel
theorem zd94_294 : decode zxm94.2.1 294 = .ok (.iastore, 1) := by decide +kernel
theorem zd94_295 : decode zxm94.2.1 295 = .ok (.goto 91, 3) := by decide +kernel
theorem zd94_298 : decode zxm94.2.1 298 = .ok (.aload_n 0, 1) := by decide +kernel
theorem zd94_299 : decode zxm94.2.1 299 = .ok (.getfield 59, 3) := by decide +kernel
theorem zd94_302 : decode zxm94.2.1 302 = .ok (.iload_n 3, 1) := by decide +kernel
theorem zd94_303 : decode zxm94.2.1 303 = .ok (.iload 7, 2) := by decide +kernel
theorem zd94_305 : decode zxm94.2.1 305 = .ok (.iload 6, 2) := by decide +kernel
theorem zd94_307 : decode zxm94.2.1 307 = .ok (.idiv, 1) := by decide +kernel
theorem zd94_308 : decode zxm94.2.1 308 = .ok (.iastore, 1) := by decide +kernel
theorem zd94_309 : decode zxm94.2.1 309 = .ok (.goto 77, 3) := by decide +kernel
theorem zd94_312 : decode zxm94.2.1 312 = .ok (.aload_n 0, 1) := by decide +kernel
theorem zd94_313 : decode zxm94.2.1 313 = .ok (.getfield 59, 3) := by decide +kernel
theorem zd94_316 : decode zxm94.2.1 316 = .ok (.iload_n 3, 1) := by decide +kernel
theorem zd94_317 : decode zxm94.2.1 317 = .ok (.iload 7, 2) := by decide +kernel
theorem zd94_319 : decode zxm94.2.1 319 = .ok (.iload 6, 2) := by decide +kernel
theorem zd94_321 : decode zxm94.2.1 321 = .ok (.irem, 1) := by decide +kernel
theorem zd94_322 : decode zxm94.2.1 322 = .ok (.iastore, 1) := by decide +kernel
theorem zd94_323 : decode zxm94.2.1 323 = .ok (.goto 63, 3) := by decide +kernel
theorem zd94_326 : decode zxm94.2.1 326 = .ok (.aload_n 0, 1) := by decide +kernel
theorem zd94_327 : decode zxm94.2.1 327 = .ok (.getfield 59, 3) := by decide +kernel
theorem zd94_330 : decode zxm94.2.1 330 = .ok (.iload_n 3, 1) := by decide +kernel
theorem zd94_331 : decode zxm94.2.1 331 = .ok (.iload 7, 2) := by decide +kernel
theorem zd94_333 : decode zxm94.2.1 333 = .ok (.iload 6, 2) := by decide +kernel
theorem zd94_335 : decode zxm94.2.1 335 = .ok (.if_icmp .ge 7, 3) := by decide +kernel
theorem zd94_338 : decode zxm94.2.1 338 = .ok (.iconst 1, 1) := by decide +kernel
theorem zd94_339 : decode zxm94.2.1 339 = .ok (.goto 4, 3) := by decide +kernel
theorem zd94_342 : decode zxm94.2.1 342 = .ok (.iconst 0, 1) := by decide +kernel
theorem zd94_343 : decode zxm94.2.1 343 = .ok (.iastore, 1) := by decide +kernel
theorem zd94_344 : decode zxm94.2.1 344 = .ok (.goto 42, 3) := by decide +kernel
theorem zd94_347 : decode zxm94.2.1 347 = .ok (.aload_n 0, 1) := by decide +kernel
theorem zd94_348 : decode zxm94.2.1 348 = .ok (.getfield 59, 3) := by decide +kernel
theorem zd94_351 : decode zxm94.2.1 351 = .ok (.iload_n 3, 1) := by decide +kernel
theorem zd94_352 : decode zxm94.2.1 352 = .ok (.iload 7, 2) := by decide +kernel
theorem zd94_354 : decode zxm94.2.1 354 = .ok (.iload 6, 2) := by decide +kernel
theorem zd94_356 : decode zxm94.2.1 356 = .ok (.if_icmp .le 7, 3) := by decide +kernel
theorem zd94_359 : decode zxm94.2.1 359 = .ok (.iconst 1, 1) := by decide +kernel
theorem zd94_360 : decode zxm94.2.1 360 = .ok (.goto 4, 3) := by decide +kernel
theorem zd94_363 : decode zxm94.2.1 363 = .ok (.iconst 0, 1) := by decide +kernel
theorem zd94_364 : decode zxm94.2.1 364 = .ok (.iastore, 1) := by decide +kernel
theorem zd94_365 : decode zxm94.2.1 365 = .ok (.goto 21, 3) := by decide +kernel
theorem zd94_368 : decode zxm94.2.1 368 = .ok (.aload_n 0, 1) := by decide +kernel
theorem zd94_369 : decode zxm94.2.1 369 = .ok (.getfield 59, 3) := by decide +kernel
theorem zd94_372 : decode zxm94.2.1 372 = .ok (.iload_n 3, 1) := by decide +kernel
theorem zd94_373 : decode zxm94.2.1 373 = .ok (.iload 7, 2) := by decide +kernel
theorem zd94_375 : decode zxm94.2.1 375 = .ok (.iload 6, 2) := by decide +kernel
theorem zd94_377 : decode zxm94.2.1 377 = .ok (.if_icmp .ne 7, 3) := by decide +kernel
theorem zd94_380 : decode zxm94.2.1 380 = .ok (.iconst 1, 1) := by decide +kernel
theorem zd94_381 : decode zxm94.2.1 381 = .ok (.goto 4, 3) := by decide +kernel
theorem zd94_384 : decode zxm94.2.1 384 = .ok (.iconst 0, 1) := by decide +kernel
theorem zd94_385 : decode zxm94.2.1 385 = .ok (.iastore, 1) := by decide +kernel
theorem zd94_386 : decode zxm94.2.1 386 = .ok (.iinc 4 1, 3) := by decide +kernel
theorem zd94_389 : decode zxm94.2.1 389 = .ok (.goto (-384), 3) := by decide +kernel
theorem zd94_392 : decode zxm94.2.1 392 = .ok (.aload_n 0, 1) := by decide +kernel
theorem zd94_393 : decode zxm94.2.1 393 = .ok (.iload_n 3, 1) := by decide +kernel
theorem zd94_394 : decode zxm94.2.1 394 = .ok (.ifCond .ge 7, 3) := by decide +kernel
theorem zd94_397 : decode zxm94.2.1 397 = .ok (.iconst 0, 1) := by decide +kernel
theorem zd94_398 : decode zxm94.2.1 398 = .ok (.goto 9, 3) := by decide +kernel
theorem zd94_401 : decode zxm94.2.1 401 = .ok (.aload_n 0, 1) := by decide +kernel
theorem zd94_402 : decode zxm94.2.1 402 = .ok (.getfield 59, 3) := by decide +kernel
theorem zd94_405 : decode zxm94.2.1 405 = .ok (.iload_n 3, 1) := by decide +kernel
theorem zd94_406 : decode zxm94.2.1 406 = .ok (.iaload, 1) := by decide +kernel
theorem zd94_407 : decode zxm94.2.1 407 = .ok (.putfield 62, 3) := by decide +kernel
theorem zd94_410 : decode zxm94.2.1 410 = .ok (.iconst 1, 1) := by decide +kernel
theorem zd94_411 : decode zxm94.2.1 411 = .ok (.ireturn, 1) := by decide +kernel
theorem zt_Law_run {x1 : Int} {x2 : Int} {f0 : Int} {g0 : (Int → Int)} {g1 : (Int → Int)} {g2 : (Int → Int)} {g3 : (Int → Int)} {o : Int × Int × (Int → Int)} (h : zf_Law_run x1 x2 f0 g0 g1 g2 g3 = some o) : zv_Fn z_TB z_cl z_KX zy_Law_run zxm94 (1, 60) [.inr 0, .inl x1, .inl x2] [.inl f0] [g0, g1, g2, g3] (some o.1) [.inl o.2.1] [g0, o.2.2, g2, g3] := zv_meth (K := (z_KF2, z_KC2, z_KL2, z_KT2, [], [], [], none)) (FT := z_FT) (MT := z_MT) (n := 3) zxp94 (z_ks2 _ (fun _ h => List.mem_cons_of_mem _ h) _ _ _ _ (fun j r h _ => by cases h)) (fun _ _ => zs_KX_p) zyw_Law_run (fun va F G h => by obtain ⟨rfl, _⟩ := h; rfl) (fun va F G h => by obtain ⟨rfl, _⟩ := h; rfl) rfl fun good va F G hB hret hvret hP => by
  obtain ⟨rfl, rfl, rfl⟩ := hP
  have l0 : ∀ (n : Nat) (x2 : Int) (x3 : Int) (x4 : Int) (f0 : Int) (g1 : (Int → Int)) (q : ((Int × (Int → Int)) ⊕ (Int × Int × (Int → Int)))), zf_Law_run_l0 x2 f0 g0 g2 g3 n x3 x4 g1 = some q → (Sum.elim (fun e : Int × (Int → Int) => good 392 [.inr 0, .inr 1000, .inr 1000, .inl e.1, .inr 1000, .inr 1000, .inr 1000, .inr 1000] [] [.inl f0] [g0, e.2, g2, g3]) (fun w : Int × Int × (Int → Int) => w = o) q) → good 5 [.inr 0, .inr 1000, .inl x2, .inl x3, .inl x4, .inr 1000, .inr 1000, .inr 1000] [] [.inl f0] [g0, g1, g2, g3] := by
    intro n
    induction n with
    | zero => intro x2 x3 x4 f0 g1 q h; exact absurd (show none = some q from h) (fun h => by cases h)
    | succ n ih =>
      intro x2 x3 x4 f0 g1 q h hK
      replace h : zf_Law_run_l0_b x2 f0 g0 g2 g3 (zf_Law_run_l0 x2 f0 g0 g2 g3 n) x3 x4 g1 = some q := h
      unfold zf_Law_run_l0_b at h
      refine zv_ild hB zd94_5 rfl rfl ?_
      refine zv_ild hB zd94_7 rfl rfl ?_
      refine zv_cge hB zd94_8 rfl (fun hc1 => ?_) (fun hc1 => ?_)
      · rw [if_neg (Int.not_lt.mpr hc1)] at h
        have hq := Option.some.inj h
        subst hq
        refine zv_wk hB (L' := [.inr 0, .inr 1000, .inr 1000, .inl x3, .inr 1000, .inr 1000, .inr 1000, .inr 1000]) (F' := [.inl f0]) ⟨fun _ => rfl, fun (h : zv_is (.inr 1000)) => (Nat.lt_irrefl 1000 h).elim, fun (h : zv_is (.inr 1000)) => (Nat.lt_irrefl 1000 h).elim, fun _ => rfl, fun (h : zv_is (.inr 1000)) => (Nat.lt_irrefl 1000 h).elim, fun (h : zv_is (.inr 1000)) => (Nat.lt_irrefl 1000 h).elim, fun (h : zv_is (.inr 1000)) => (Nat.lt_irrefl 1000 h).elim, fun (h : zv_is (.inr 1000)) => (Nat.lt_irrefl 1000 h).elim, trivial⟩ ⟨fun _ => rfl, trivial⟩ ?_
        exact hK
      · rw [if_pos hc1] at h
        refine zv_ald hB zd94_11 rfl rfl rfl ?_
        refine zv_getr hB zd94_12 rfl ?_
        refine zv_ild hB zd94_15 rfl rfl ?_
        obtain ⟨c2, h⟩ := zi_if h
        refine zv_iald hB zd94_17 rfl rfl (zi_ix_ok c2).1 (zi_ix_ok c2).2 (fun _ _ => ?_)
        refine zv_ist hB zd94_18 rfl rfl rfl ?_
        refine zv_ild hB zd94_20 rfl rfl ?_
        refine zv_con hB zd94_22 rfl ?_
        refine zv_cgt hB zd94_23 rfl (fun hc3 => ?_) (fun hc3 => ?_)
        · rw [if_pos hc3] at h
          refine zv_ild hB zd94_73 rfl rfl ?_
          refine zv_ild hB zd94_74 rfl rfl ?_
          refine zv_con hB zd94_76 rfl ?_
          refine zv_cge hB zd94_77 rfl (fun hc4 => ?_) (fun hc4 => ?_)
          · rw [if_neg (Int.not_lt.mpr hc4)] at h
            refine zv_con hB zd94_84 rfl ?_
            refine zv_cge hB zd94_85 rfl (fun hc5 => ?_) (fun hc5 => ?_)
            · rw [if_neg (Int.not_lt.mpr hc5)] at h
              refine zv_ald hB zd94_90 rfl rfl rfl ?_
              refine zv_getr hB zd94_91 rfl ?_
              refine zv_ild hB zd94_94 rfl rfl ?_
              obtain ⟨c6, h⟩ := zi_if h
              refine zv_iald hB zd94_95 rfl rfl (zi_ix_ok c6).1 (zi_ix_ok c6).2 (fun _ _ => ?_)
              refine zv_ist hB zd94_96 rfl rfl rfl ?_
              refine zv_ild hB zd94_98 rfl rfl ?_
              refine zv_con hB zd94_100 rfl ?_
              refine zv_cne hB zd94_101 rfl (fun _ => ?_) (fun hc => absurd hc (by omega))
              refine zv_ild hB zd94_123 rfl rfl ?_
              refine zv_con hB zd94_125 rfl ?_
              refine zv_cge hB zd94_126 rfl (fun _ => ?_) (fun hc => absurd hc (by omega))
              refine zv_iincw hB zd94_172 rfl rfl ?_
              refine zv_ild hB zd94_175 rfl rfl ?_
              refine zv_con hB zd94_177 rfl ?_
              refine zv_cge hB zd94_178 rfl (fun _ => ?_) (fun hc => absurd hc (by omega))
              refine zv_ild hB zd94_184 rfl rfl ?_
              refine zv_zne hB zd94_186 rfl (fun hc10 => ?_) (fun hc10 => ?_)
              · rw [if_neg hc10] at h
                refine zv_ald hB zd94_205 rfl rfl rfl ?_
                refine zv_getr hB zd94_206 rfl ?_
                refine zv_ild hB zd94_209 rfl rfl ?_
                obtain ⟨c11, h⟩ := zi_if h
                refine zv_iald hB zd94_210 rfl rfl (zi_ix_ok c11).1 (zi_ix_ok c11).2 (fun _ _ => ?_)
                refine zv_ist hB zd94_211 rfl rfl rfl ?_
                refine zv_ild hB zd94_213 rfl rfl ?_
                refine zv_tsw hB zd94_215 rfl ?_
                refine ⟨fun hc12 => ⟨_, rfl, ?_⟩, fun hc12 => ?_⟩
                · replace hc12 : (g0 x4) = 5 := hc12
                  rw [if_pos hc12] at h
                  refine zv_ald hB zd94_256 rfl rfl rfl ?_
                  refine zv_getr hB zd94_257 rfl ?_
                  refine zv_ild hB zd94_260 rfl rfl ?_
                  refine zv_ild hB zd94_261 rfl rfl ?_
                  refine zv_ild hB zd94_263 rfl rfl ?_
                  refine zv_addw hB zd94_265 ?_
                  refine zv_iast hB zd94_266 rfl rfl (zi_ix_ok c11).1 (zi_ix_ok c11).2 ?_
                  refine zv_goto hB zd94_267 rfl ?_
                  refine zv_iincw hB zd94_386 rfl rfl ?_
                  refine zv_goto hB zd94_389 rfl ?_
                  refine zv_wk hB (L' := [.inr 0, .inr 1000, .inl x2, .inl (zi_w (x3 + (-1))), .inl (zi_w (x4 + 1)), .inr 1000, .inr 1000, .inr 1000]) (F' := [.inl f0]) ⟨fun _ => rfl, fun (h : zv_is (.inr 1000)) => (Nat.lt_irrefl 1000 h).elim, fun _ => rfl, fun _ => rfl, fun _ => rfl, fun (h : zv_is (.inr 1000)) => (Nat.lt_irrefl 1000 h).elim, fun (h : zv_is (.inr 1000)) => (Nat.lt_irrefl 1000 h).elim, fun (h : zv_is (.inr 1000)) => (Nat.lt_irrefl 1000 h).elim, trivial⟩ ⟨fun _ => rfl, trivial⟩ ?_
                  exact ih _ _ _ _ _ q h hK
                replace hc12 : (g0 x4) ≠ 5 := hc12
                rw [if_neg hc12] at h
                refine ⟨fun hc13 => ⟨_, rfl, ?_⟩, fun hc13 => ?_⟩
                · replace hc13 : (g0 x4) = 6 := hc13
                  rw [if_pos hc13] at h
                  refine zv_ald hB zd94_270 rfl rfl rfl ?_
                  refine zv_getr hB zd94_271 rfl ?_
                  refine zv_ild hB zd94_274 rfl rfl ?_
                  refine zv_ild hB zd94_275 rfl rfl ?_
                  refine zv_ild hB zd94_277 rfl rfl ?_
                  refine zv_subw hB zd94_279 ?_
                  refine zv_iast hB zd94_280 rfl rfl (zi_ix_ok c11).1 (zi_ix_ok c11).2 ?_
                  refine zv_goto hB zd94_281 rfl ?_
                  refine zv_iincw hB zd94_386 rfl rfl ?_
                  refine zv_goto hB zd94_389 rfl ?_
                  refine zv_wk hB (L' := [.inr 0, .inr 1000, .inl x2, .inl (zi_w (x3 + (-1))), .inl (zi_w (x4 + 1)), .inr 1000, .inr 1000, .inr 1000]) (F' := [.inl f0]) ⟨fun _ => rfl, fun (h : zv_is (.inr 1000)) => (Nat.lt_irrefl 1000 h).elim, fun _ => rfl, fun _ => rfl, fun _ => rfl, fun (h : zv_is (.inr 1000)) => (Nat.lt_irrefl 1000 h).elim, fun (h : zv_is (.inr 1000)) => (Nat.lt_irrefl 1000 h).elim, fun (h : zv_is (.inr 1000)) => (Nat.lt_irrefl 1000 h).elim, trivial⟩ ⟨fun _ => rfl, trivial⟩ ?_
                  exact ih _ _ _ _ _ q h hK
                replace hc13 : (g0 x4) ≠ 6 := hc13
                rw [if_neg hc13] at h
                refine ⟨fun hc14 => ⟨_, rfl, ?_⟩, fun hc14 => ?_⟩
                · replace hc14 : (g0 x4) = 7 := hc14
                  rw [if_pos hc14] at h
                  refine zv_ald hB zd94_284 rfl rfl rfl ?_
                  refine zv_getr hB zd94_285 rfl ?_
                  refine zv_ild hB zd94_288 rfl rfl ?_
                  refine zv_ild hB zd94_289 rfl rfl ?_
                  refine zv_ild hB zd94_291 rfl rfl ?_
                  refine zv_mulw hB zd94_293 ?_
                  refine zv_iast hB zd94_294 rfl rfl (zi_ix_ok c11).1 (zi_ix_ok c11).2 ?_
                  refine zv_goto hB zd94_295 rfl ?_
                  refine zv_iincw hB zd94_386 rfl rfl ?_
                  refine zv_goto hB zd94_389 rfl ?_
                  refine zv_wk hB (L' := [.inr 0, .inr 1000, .inl x2, .inl (zi_w (x3 + (-1))), .inl (zi_w (x4 + 1)), .inr 1000, .inr 1000, .inr 1000]) (F' := [.inl f0]) ⟨fun _ => rfl, fun (h : zv_is (.inr 1000)) => (Nat.lt_irrefl 1000 h).elim, fun _ => rfl, fun _ => rfl, fun _ => rfl, fun (h : zv_is (.inr 1000)) => (Nat.lt_irrefl 1000 h).elim, fun (h : zv_is (.inr 1000)) => (Nat.lt_irrefl 1000 h).elim, fun (h : zv_is (.inr 1000)) => (Nat.lt_irrefl 1000 h).elim, trivial⟩ ⟨fun _ => rfl, trivial⟩ ?_
                  exact ih _ _ _ _ _ q h hK
                replace hc14 : (g0 x4) ≠ 7 := hc14
                rw [if_neg hc14] at h
                refine ⟨fun hc15 => ⟨_, rfl, ?_⟩, fun hc15 => ?_⟩
                · replace hc15 : (g0 x4) = 8 := hc15
                  rw [if_pos hc15] at h
                  refine zv_ald hB zd94_298 rfl rfl rfl ?_
                  refine zv_getr hB zd94_299 rfl ?_
                  refine zv_ild hB zd94_302 rfl rfl ?_
                  refine zv_ild hB zd94_303 rfl rfl ?_
                  refine zv_ild hB zd94_305 rfl rfl ?_
                  obtain ⟨c16, h⟩ := zi_if h
                  refine zv_divw hB zd94_307 (zi_ne_ok c16) ?_
                  refine zv_iast hB zd94_308 rfl rfl (zi_ix_ok c11).1 (zi_ix_ok c11).2 ?_
                  refine zv_goto hB zd94_309 rfl ?_
                  refine zv_iincw hB zd94_386 rfl rfl ?_
                  refine zv_goto hB zd94_389 rfl ?_
                  refine zv_wk hB (L' := [.inr 0, .inr 1000, .inl x2, .inl (zi_w (x3 + (-1))), .inl (zi_w (x4 + 1)), .inr 1000, .inr 1000, .inr 1000]) (F' := [.inl f0]) ⟨fun _ => rfl, fun (h : zv_is (.inr 1000)) => (Nat.lt_irrefl 1000 h).elim, fun _ => rfl, fun _ => rfl, fun _ => rfl, fun (h : zv_is (.inr 1000)) => (Nat.lt_irrefl 1000 h).elim, fun (h : zv_is (.inr 1000)) => (Nat.lt_irrefl 1000 h).elim, fun (h : zv_is (.inr 1000)) => (Nat.lt_irrefl 1000 h).elim, trivial⟩ ⟨fun _ => rfl, trivial⟩ ?_
                  exact ih _ _ _ _ _ q h hK
                replace hc15 : (g0 x4) ≠ 8 := hc15
                rw [if_neg hc15] at h
                refine ⟨fun hc17 => ⟨_, rfl, ?_⟩, fun hc17 => ?_⟩
                · replace hc17 : (g0 x4) = 9 := hc17
                  rw [if_pos hc17] at h
                  refine zv_ald hB zd94_312 rfl rfl rfl ?_
                  refine zv_getr hB zd94_313 rfl ?_
                  refine zv_ild hB zd94_316 rfl rfl ?_
                  refine zv_ild hB zd94_317 rfl rfl ?_
                  refine zv_ild hB zd94_319 rfl rfl ?_
                  obtain ⟨c18, h⟩ := zi_if h
                  refine zv_remw hB zd94_321 (zi_ne_ok c18) ?_
                  refine zv_iast hB zd94_322 rfl rfl (zi_ix_ok c11).1 (zi_ix_ok c11).2 ?_
                  refine zv_goto hB zd94_323 rfl ?_
                  refine zv_iincw hB zd94_386 rfl rfl ?_
                  refine zv_goto hB zd94_389 rfl ?_
                  refine zv_wk hB (L' := [.inr 0, .inr 1000, .inl x2, .inl (zi_w (x3 + (-1))), .inl (zi_w (x4 + 1)), .inr 1000, .inr 1000, .inr 1000]) (F' := [.inl f0]) ⟨fun _ => rfl, fun (h : zv_is (.inr 1000)) => (Nat.lt_irrefl 1000 h).elim, fun _ => rfl, fun _ => rfl, fun _ => rfl, fun (h : zv_is (.inr 1000)) => (Nat.lt_irrefl 1000 h).elim, fun (h : zv_is (.inr 1000)) => (Nat.lt_irrefl 1000 h).elim, fun (h : zv_is (.inr 1000)) => (Nat.lt_irrefl 1000 h).elim, trivial⟩ ⟨fun _ => rfl, trivial⟩ ?_
                  exact ih _ _ _ _ _ q h hK
                replace hc17 : (g0 x4) ≠ 9 := hc17
                rw [if_neg hc17] at h
                refine ⟨fun hc19 => ⟨_, rfl, ?_⟩, fun hc19 => ?_⟩
                · replace hc19 : (g0 x4) = 10 := hc19
                  rw [if_pos hc19] at h
                  refine zv_ald hB zd94_326 rfl rfl rfl ?_
                  refine zv_getr hB zd94_327 rfl ?_
                  refine zv_ild hB zd94_330 rfl rfl ?_
                  refine zv_ild hB zd94_331 rfl rfl ?_
                  refine zv_ild hB zd94_333 rfl rfl ?_
                  refine zv_cge hB zd94_335 rfl (fun hc20 => ?_) (fun hc20 => ?_)
                  · rw [if_neg (Int.not_lt.mpr hc20)] at h
                    refine zv_con hB zd94_342 rfl ?_
                    refine zv_iast hB zd94_343 rfl rfl (zi_ix_ok c11).1 (zi_ix_ok c11).2 ?_
                    refine zv_goto hB zd94_344 rfl ?_
                    refine zv_iincw hB zd94_386 rfl rfl ?_
                    refine zv_goto hB zd94_389 rfl ?_
                    refine zv_wk hB (L' := [.inr 0, .inr 1000, .inl x2, .inl (zi_w (x3 + (-1))), .inl (zi_w (x4 + 1)), .inr 1000, .inr 1000, .inr 1000]) (F' := [.inl f0]) ⟨fun _ => rfl, fun (h : zv_is (.inr 1000)) => (Nat.lt_irrefl 1000 h).elim, fun _ => rfl, fun _ => rfl, fun _ => rfl, fun (h : zv_is (.inr 1000)) => (Nat.lt_irrefl 1000 h).elim, fun (h : zv_is (.inr 1000)) => (Nat.lt_irrefl 1000 h).elim, fun (h : zv_is (.inr 1000)) => (Nat.lt_irrefl 1000 h).elim, trivial⟩ ⟨fun _ => rfl, trivial⟩ ?_
                    exact ih _ _ _ _ _ q h hK
                  · rw [if_pos hc20] at h
                    refine zv_con hB zd94_338 rfl ?_
                    refine zv_goto hB zd94_339 rfl ?_
                    refine zv_iast hB zd94_343 rfl rfl (zi_ix_ok c11).1 (zi_ix_ok c11).2 ?_
                    refine zv_goto hB zd94_344 rfl ?_
                    refine zv_iincw hB zd94_386 rfl rfl ?_
                    refine zv_goto hB zd94_389 rfl ?_
                    refine zv_wk hB (L' := [.inr 0, .inr 1000, .inl x2, .inl (zi_w (x3 + (-1))), .inl (zi_w (x4 + 1)), .inr 1000, .inr 1000, .inr 1000]) (F' := [.inl f0]) ⟨fun _ => rfl, fun (h : zv_is (.inr 1000)) => (Nat.lt_irrefl 1000 h).elim, fun _ => rfl, fun _ => rfl, fun _ => rfl, fun (h : zv_is (.inr 1000)) => (Nat.lt_irrefl 1000 h).elim, fun (h : zv_is (.inr 1000)) => (Nat.lt_irrefl 1000 h).elim, fun (h : zv_is (.inr 1000)) => (Nat.lt_irrefl 1000 h).elim, trivial⟩ ⟨fun _ => rfl, trivial⟩ ?_
                    exact ih _ _ _ _ _ q h hK
                replace hc19 : (g0 x4) ≠ 10 := hc19
                rw [if_neg hc19] at h
                refine ⟨fun hc21 => ⟨_, rfl, ?_⟩, fun hc21 => ?_⟩
                · replace hc21 : (g0 x4) = 11 := hc21
                  rw [if_pos hc21] at h
                  refine zv_ald hB zd94_347 rfl rfl rfl ?_
                  refine zv_getr hB zd94_348 rfl ?_
                  refine zv_ild hB zd94_351 rfl rfl ?_
                  refine zv_ild hB zd94_352 rfl rfl ?_
                  refine zv_ild hB zd94_354 rfl rfl ?_
                  refine zv_cle hB zd94_356 rfl (fun hc22 => ?_) (fun hc22 => ?_)
                  · rw [if_neg (Int.not_lt.mpr hc22)] at h
                    refine zv_con hB zd94_363 rfl ?_
                    refine zv_iast hB zd94_364 rfl rfl (zi_ix_ok c11).1 (zi_ix_ok c11).2 ?_
                    refine zv_goto hB zd94_365 rfl ?_
                    refine zv_iincw hB zd94_386 rfl rfl ?_
                    refine zv_goto hB zd94_389 rfl ?_
                    refine zv_wk hB (L' := [.inr 0, .inr 1000, .inl x2, .inl (zi_w (x3 + (-1))), .inl (zi_w (x4 + 1)), .inr 1000, .inr 1000, .inr 1000]) (F' := [.inl f0]) ⟨fun _ => rfl, fun (h : zv_is (.inr 1000)) => (Nat.lt_irrefl 1000 h).elim, fun _ => rfl, fun _ => rfl, fun _ => rfl, fun (h : zv_is (.inr 1000)) => (Nat.lt_irrefl 1000 h).elim, fun (h : zv_is (.inr 1000)) => (Nat.lt_irrefl 1000 h).elim, fun (h : zv_is (.inr 1000)) => (Nat.lt_irrefl 1000 h).elim, trivial⟩ ⟨fun _ => rfl, trivial⟩ ?_
                    exact ih _ _ _ _ _ q h hK
                  · rw [if_pos hc22] at h
                    refine zv_con hB zd94_359 rfl ?_
                    refine zv_goto hB zd94_360 rfl ?_
                    refine zv_iast hB zd94_364 rfl rfl (zi_ix_ok c11).1 (zi_ix_ok c11).2 ?_
                    refine zv_goto hB zd94_365 rfl ?_
                    refine zv_iincw hB zd94_386 rfl rfl ?_
                    refine zv_goto hB zd94_389 rfl ?_
                    refine zv_wk hB (L' := [.inr 0, .inr 1000, .inl x2, .inl (zi_w (x3 + (-1))), .inl (zi_w (x4 + 1)), .inr 1000, .inr 1000, .inr 1000]) (F' := [.inl f0]) ⟨fun _ => rfl, fun (h : zv_is (.inr 1000)) => (Nat.lt_irrefl 1000 h).elim, fun _ => rfl, fun _ => rfl, fun _ => rfl, fun (h : zv_is (.inr 1000)) => (Nat.lt_irrefl 1000 h).elim, fun (h : zv_is (.inr 1000)) => (Nat.lt_irrefl 1000 h).elim, fun (h : zv_is (.inr 1000)) => (Nat.lt_irrefl 1000 h).elim, trivial⟩ ⟨fun _ => rfl, trivial⟩ ?_
                    exact ih _ _ _ _ _ q h hK
                replace hc21 : (g0 x4) ≠ 11 := hc21
                rw [if_neg hc21] at h
                refine ⟨_, rfl, ?_⟩
                refine zv_ald hB zd94_368 rfl rfl rfl ?_
                refine zv_getr hB zd94_369 rfl ?_
                refine zv_ild hB zd94_372 rfl rfl ?_
                refine zv_ild hB zd94_373 rfl rfl ?_
                refine zv_ild hB zd94_375 rfl rfl ?_
                refine zv_cne hB zd94_377 rfl (fun hc23 => ?_) (fun hc23 => ?_)
                · rw [if_neg hc23] at h
                  refine zv_con hB zd94_384 rfl ?_
                  refine zv_iast hB zd94_385 rfl rfl (zi_ix_ok c11).1 (zi_ix_ok c11).2 ?_
                  refine zv_iincw hB zd94_386 rfl rfl ?_
                  refine zv_goto hB zd94_389 rfl ?_
                  refine zv_wk hB (L' := [.inr 0, .inr 1000, .inl x2, .inl (zi_w (x3 + (-1))), .inl (zi_w (x4 + 1)), .inr 1000, .inr 1000, .inr 1000]) (F' := [.inl f0]) ⟨fun _ => rfl, fun (h : zv_is (.inr 1000)) => (Nat.lt_irrefl 1000 h).elim, fun _ => rfl, fun _ => rfl, fun _ => rfl, fun (h : zv_is (.inr 1000)) => (Nat.lt_irrefl 1000 h).elim, fun (h : zv_is (.inr 1000)) => (Nat.lt_irrefl 1000 h).elim, fun (h : zv_is (.inr 1000)) => (Nat.lt_irrefl 1000 h).elim, trivial⟩ ⟨fun _ => rfl, trivial⟩ ?_
                  exact ih _ _ _ _ _ q h hK
                · rw [if_pos hc23] at h
                  refine zv_con hB zd94_380 rfl ?_
                  refine zv_goto hB zd94_381 rfl ?_
                  refine zv_iast hB zd94_385 rfl rfl (zi_ix_ok c11).1 (zi_ix_ok c11).2 ?_
                  refine zv_iincw hB zd94_386 rfl rfl ?_
                  refine zv_goto hB zd94_389 rfl ?_
                  refine zv_wk hB (L' := [.inr 0, .inr 1000, .inl x2, .inl (zi_w (x3 + (-1))), .inl (zi_w (x4 + 1)), .inr 1000, .inr 1000, .inr 1000]) (F' := [.inl f0]) ⟨fun _ => rfl, fun (h : zv_is (.inr 1000)) => (Nat.lt_irrefl 1000 h).elim, fun _ => rfl, fun _ => rfl, fun _ => rfl, fun (h : zv_is (.inr 1000)) => (Nat.lt_irrefl 1000 h).elim, fun (h : zv_is (.inr 1000)) => (Nat.lt_irrefl 1000 h).elim, fun (h : zv_is (.inr 1000)) => (Nat.lt_irrefl 1000 h).elim, trivial⟩ ⟨fun _ => rfl, trivial⟩ ?_
                  exact ih _ _ _ _ _ q h hK
              · rw [if_pos hc10] at h
                refine zv_ild hB zd94_189 rfl rfl ?_
                refine zv_con hB zd94_191 rfl ?_
                refine zv_ceq hB zd94_193 rfl (fun hc24 => ?_) (fun hc24 => ?_)
                · rw [if_pos hc24] at h
                  refine zv_con hB zd94_203 rfl ?_
                  have hw : (0, f0, g1) = o := zi_rk (Option.some.inj h) hK
                  subst hw
                  exact hret _ _ _ _ _ zd94_204 (by constructor <;> decide) ⟨rfl, rfl, rfl⟩
                · rw [if_neg hc24] at h
                  refine zv_ild hB zd94_196 rfl rfl ?_
                  refine zv_con hB zd94_198 rfl ?_
                  refine zv_cne hB zd94_200 rfl (fun hc25 => ?_) (fun hc25 => ?_)
                  · rw [if_neg hc25] at h
                    refine zv_ald hB zd94_205 rfl rfl rfl ?_
                    refine zv_getr hB zd94_206 rfl ?_
                    refine zv_ild hB zd94_209 rfl rfl ?_
                    obtain ⟨c26, h⟩ := zi_if h
                    refine zv_iald hB zd94_210 rfl rfl (zi_ix_ok c26).1 (zi_ix_ok c26).2 (fun _ _ => ?_)
                    refine zv_ist hB zd94_211 rfl rfl rfl ?_
                    refine zv_ild hB zd94_213 rfl rfl ?_
                    refine zv_tsw hB zd94_215 rfl ?_
                    refine ⟨fun hc27 => ⟨_, rfl, ?_⟩, fun hc27 => ?_⟩
                    · replace hc27 : (g0 x4) = 5 := hc27
                      rw [if_pos hc27] at h
                      refine zv_ald hB zd94_256 rfl rfl rfl ?_
                      refine zv_getr hB zd94_257 rfl ?_
                      refine zv_ild hB zd94_260 rfl rfl ?_
                      refine zv_ild hB zd94_261 rfl rfl ?_
                      refine zv_ild hB zd94_263 rfl rfl ?_
                      refine zv_addw hB zd94_265 ?_
                      refine zv_iast hB zd94_266 rfl rfl (zi_ix_ok c26).1 (zi_ix_ok c26).2 ?_
                      refine zv_goto hB zd94_267 rfl ?_
                      refine zv_iincw hB zd94_386 rfl rfl ?_
                      refine zv_goto hB zd94_389 rfl ?_
                      refine zv_wk hB (L' := [.inr 0, .inr 1000, .inl x2, .inl (zi_w (x3 + (-1))), .inl (zi_w (x4 + 1)), .inr 1000, .inr 1000, .inr 1000]) (F' := [.inl f0]) ⟨fun _ => rfl, fun (h : zv_is (.inr 1000)) => (Nat.lt_irrefl 1000 h).elim, fun _ => rfl, fun _ => rfl, fun _ => rfl, fun (h : zv_is (.inr 1000)) => (Nat.lt_irrefl 1000 h).elim, fun (h : zv_is (.inr 1000)) => (Nat.lt_irrefl 1000 h).elim, fun (h : zv_is (.inr 1000)) => (Nat.lt_irrefl 1000 h).elim, trivial⟩ ⟨fun _ => rfl, trivial⟩ ?_
                      exact ih _ _ _ _ _ q h hK
                    replace hc27 : (g0 x4) ≠ 5 := hc27
                    rw [if_neg hc27] at h
                    refine ⟨fun hc28 => ⟨_, rfl, ?_⟩, fun hc28 => ?_⟩
                    · replace hc28 : (g0 x4) = 6 := hc28
                      rw [if_pos hc28] at h
                      refine zv_ald hB zd94_270 rfl rfl rfl ?_
                      refine zv_getr hB zd94_271 rfl ?_
                      refine zv_ild hB zd94_274 rfl rfl ?_
                      refine zv_ild hB zd94_275 rfl rfl ?_
                      refine zv_ild hB zd94_277 rfl rfl ?_
                      refine zv_subw hB zd94_279 ?_
                      refine zv_iast hB zd94_280 rfl rfl (zi_ix_ok c26).1 (zi_ix_ok c26).2 ?_
                      refine zv_goto hB zd94_281 rfl ?_
                      refine zv_iincw hB zd94_386 rfl rfl ?_
                      refine zv_goto hB zd94_389 rfl ?_
                      refine zv_wk hB (L' := [.inr 0, .inr 1000, .inl x2, .inl (zi_w (x3 + (-1))), .inl (zi_w (x4 + 1)), .inr 1000, .inr 1000, .inr 1000]) (F' := [.inl f0]) ⟨fun _ => rfl, fun (h : zv_is (.inr 1000)) => (Nat.lt_irrefl 1000 h).elim, fun _ => rfl, fun _ => rfl, fun _ => rfl, fun (h : zv_is (.inr 1000)) => (Nat.lt_irrefl 1000 h).elim, fun (h : zv_is (.inr 1000)) => (Nat.lt_irrefl 1000 h).elim, fun (h : zv_is (.inr 1000)) => (Nat.lt_irrefl 1000 h).elim, trivial⟩ ⟨fun _ => rfl, trivial⟩ ?_
                      exact ih _ _ _ _ _ q h hK
                    replace hc28 : (g0 x4) ≠ 6 := hc28
                    rw [if_neg hc28] at h
                    refine ⟨fun hc29 => ⟨_, rfl, ?_⟩, fun hc29 => ?_⟩
                    · replace hc29 : (g0 x4) = 7 := hc29
                      rw [if_pos hc29] at h
                      refine zv_ald hB zd94_284 rfl rfl rfl ?_
                      refine zv_getr hB zd94_285 rfl ?_
                      refine zv_ild hB zd94_288 rfl rfl ?_
                      refine zv_ild hB zd94_289 rfl rfl ?_
                      refine zv_ild hB zd94_291 rfl rfl ?_
                      refine zv_mulw hB zd94_293 ?_
                      refine zv_iast hB zd94_294 rfl rfl (zi_ix_ok c26).1 (zi_ix_ok c26).2 ?_
                      refine zv_goto hB zd94_295 rfl ?_
                      refine zv_iincw hB zd94_386 rfl rfl ?_
                      refine zv_goto hB zd94_389 rfl ?_
                      refine zv_wk hB (L' := [.inr 0, .inr 1000, .inl x2, .inl (zi_w (x3 + (-1))), .inl (zi_w (x4 + 1)), .inr 1000, .inr 1000, .inr 1000]) (F' := [.inl f0]) ⟨fun _ => rfl, fun (h : zv_is (.inr 1000)) => (Nat.lt_irrefl 1000 h).elim, fun _ => rfl, fun _ => rfl, fun _ => rfl, fun (h : zv_is (.inr 1000)) => (Nat.lt_irrefl 1000 h).elim, fun (h : zv_is (.inr 1000)) => (Nat.lt_irrefl 1000 h).elim, fun (h : zv_is (.inr 1000)) => (Nat.lt_irrefl 1000 h).elim, trivial⟩ ⟨fun _ => rfl, trivial⟩ ?_
                      exact ih _ _ _ _ _ q h hK
                    replace hc29 : (g0 x4) ≠ 7 := hc29
                    rw [if_neg hc29] at h
                    refine ⟨fun hc => absurd (show (g0 x4) = 8 from hc) (by omega), fun hc30 => ?_⟩
                    replace hc30 : (g0 x4) ≠ 8 := hc30
                    refine ⟨fun hc => absurd (show (g0 x4) = 9 from hc) (by omega), fun hc31 => ?_⟩
                    replace hc31 : (g0 x4) ≠ 9 := hc31
                    refine ⟨fun hc32 => ⟨_, rfl, ?_⟩, fun hc32 => ?_⟩
                    · replace hc32 : (g0 x4) = 10 := hc32
                      rw [if_pos hc32] at h
                      refine zv_ald hB zd94_326 rfl rfl rfl ?_
                      refine zv_getr hB zd94_327 rfl ?_
                      refine zv_ild hB zd94_330 rfl rfl ?_
                      refine zv_ild hB zd94_331 rfl rfl ?_
                      refine zv_ild hB zd94_333 rfl rfl ?_
                      refine zv_cge hB zd94_335 rfl (fun hc33 => ?_) (fun hc33 => ?_)
                      · rw [if_neg (Int.not_lt.mpr hc33)] at h
                        refine zv_con hB zd94_342 rfl ?_
                        refine zv_iast hB zd94_343 rfl rfl (zi_ix_ok c26).1 (zi_ix_ok c26).2 ?_
                        refine zv_goto hB zd94_344 rfl ?_
                        refine zv_iincw hB zd94_386 rfl rfl ?_
                        refine zv_goto hB zd94_389 rfl ?_
                        refine zv_wk hB (L' := [.inr 0, .inr 1000, .inl x2, .inl (zi_w (x3 + (-1))), .inl (zi_w (x4 + 1)), .inr 1000, .inr 1000, .inr 1000]) (F' := [.inl f0]) ⟨fun _ => rfl, fun (h : zv_is (.inr 1000)) => (Nat.lt_irrefl 1000 h).elim, fun _ => rfl, fun _ => rfl, fun _ => rfl, fun (h : zv_is (.inr 1000)) => (Nat.lt_irrefl 1000 h).elim, fun (h : zv_is (.inr 1000)) => (Nat.lt_irrefl 1000 h).elim, fun (h : zv_is (.inr 1000)) => (Nat.lt_irrefl 1000 h).elim, trivial⟩ ⟨fun _ => rfl, trivial⟩ ?_
                        exact ih _ _ _ _ _ q h hK
                      · rw [if_pos hc33] at h
                        refine zv_con hB zd94_338 rfl ?_
                        refine zv_goto hB zd94_339 rfl ?_
                        refine zv_iast hB zd94_343 rfl rfl (zi_ix_ok c26).1 (zi_ix_ok c26).2 ?_
                        refine zv_goto hB zd94_344 rfl ?_
                        refine zv_iincw hB zd94_386 rfl rfl ?_
                        refine zv_goto hB zd94_389 rfl ?_
                        refine zv_wk hB (L' := [.inr 0, .inr 1000, .inl x2, .inl (zi_w (x3 + (-1))), .inl (zi_w (x4 + 1)), .inr 1000, .inr 1000, .inr 1000]) (F' := [.inl f0]) ⟨fun _ => rfl, fun (h : zv_is (.inr 1000)) => (Nat.lt_irrefl 1000 h).elim, fun _ => rfl, fun _ => rfl, fun _ => rfl, fun (h : zv_is (.inr 1000)) => (Nat.lt_irrefl 1000 h).elim, fun (h : zv_is (.inr 1000)) => (Nat.lt_irrefl 1000 h).elim, fun (h : zv_is (.inr 1000)) => (Nat.lt_irrefl 1000 h).elim, trivial⟩ ⟨fun _ => rfl, trivial⟩ ?_
                        exact ih _ _ _ _ _ q h hK
                    replace hc32 : (g0 x4) ≠ 10 := hc32
                    rw [if_neg hc32] at h
                    refine ⟨fun hc34 => ⟨_, rfl, ?_⟩, fun hc34 => ?_⟩
                    · replace hc34 : (g0 x4) = 11 := hc34
                      rw [if_pos hc34] at h
                      refine zv_ald hB zd94_347 rfl rfl rfl ?_
                      refine zv_getr hB zd94_348 rfl ?_
                      refine zv_ild hB zd94_351 rfl rfl ?_
                      refine zv_ild hB zd94_352 rfl rfl ?_
                      refine zv_ild hB zd94_354 rfl rfl ?_
                      refine zv_cle hB zd94_356 rfl (fun hc35 => ?_) (fun hc35 => ?_)
                      · rw [if_neg (Int.not_lt.mpr hc35)] at h
                        refine zv_con hB zd94_363 rfl ?_
                        refine zv_iast hB zd94_364 rfl rfl (zi_ix_ok c26).1 (zi_ix_ok c26).2 ?_
                        refine zv_goto hB zd94_365 rfl ?_
                        refine zv_iincw hB zd94_386 rfl rfl ?_
                        refine zv_goto hB zd94_389 rfl ?_
                        refine zv_wk hB (L' := [.inr 0, .inr 1000, .inl x2, .inl (zi_w (x3 + (-1))), .inl (zi_w (x4 + 1)), .inr 1000, .inr 1000, .inr 1000]) (F' := [.inl f0]) ⟨fun _ => rfl, fun (h : zv_is (.inr 1000)) => (Nat.lt_irrefl 1000 h).elim, fun _ => rfl, fun _ => rfl, fun _ => rfl, fun (h : zv_is (.inr 1000)) => (Nat.lt_irrefl 1000 h).elim, fun (h : zv_is (.inr 1000)) => (Nat.lt_irrefl 1000 h).elim, fun (h : zv_is (.inr 1000)) => (Nat.lt_irrefl 1000 h).elim, trivial⟩ ⟨fun _ => rfl, trivial⟩ ?_
                        exact ih _ _ _ _ _ q h hK
                      · rw [if_pos hc35] at h
                        refine zv_con hB zd94_359 rfl ?_
                        refine zv_goto hB zd94_360 rfl ?_
                        refine zv_iast hB zd94_364 rfl rfl (zi_ix_ok c26).1 (zi_ix_ok c26).2 ?_
                        refine zv_goto hB zd94_365 rfl ?_
                        refine zv_iincw hB zd94_386 rfl rfl ?_
                        refine zv_goto hB zd94_389 rfl ?_
                        refine zv_wk hB (L' := [.inr 0, .inr 1000, .inl x2, .inl (zi_w (x3 + (-1))), .inl (zi_w (x4 + 1)), .inr 1000, .inr 1000, .inr 1000]) (F' := [.inl f0]) ⟨fun _ => rfl, fun (h : zv_is (.inr 1000)) => (Nat.lt_irrefl 1000 h).elim, fun _ => rfl, fun _ => rfl, fun _ => rfl, fun (h : zv_is (.inr 1000)) => (Nat.lt_irrefl 1000 h).elim, fun (h : zv_is (.inr 1000)) => (Nat.lt_irrefl 1000 h).elim, fun (h : zv_is (.inr 1000)) => (Nat.lt_irrefl 1000 h).elim, trivial⟩ ⟨fun _ => rfl, trivial⟩ ?_
                        exact ih _ _ _ _ _ q h hK
                    replace hc34 : (g0 x4) ≠ 11 := hc34
                    rw [if_neg hc34] at h
                    refine ⟨_, rfl, ?_⟩
                    refine zv_ald hB zd94_368 rfl rfl rfl ?_
                    refine zv_getr hB zd94_369 rfl ?_
                    refine zv_ild hB zd94_372 rfl rfl ?_
                    refine zv_ild hB zd94_373 rfl rfl ?_
                    refine zv_ild hB zd94_375 rfl rfl ?_
                    refine zv_cne hB zd94_377 rfl (fun hc36 => ?_) (fun hc36 => ?_)
                    · rw [if_neg hc36] at h
                      refine zv_con hB zd94_384 rfl ?_
                      refine zv_iast hB zd94_385 rfl rfl (zi_ix_ok c26).1 (zi_ix_ok c26).2 ?_
                      refine zv_iincw hB zd94_386 rfl rfl ?_
                      refine zv_goto hB zd94_389 rfl ?_
                      refine zv_wk hB (L' := [.inr 0, .inr 1000, .inl x2, .inl (zi_w (x3 + (-1))), .inl (zi_w (x4 + 1)), .inr 1000, .inr 1000, .inr 1000]) (F' := [.inl f0]) ⟨fun _ => rfl, fun (h : zv_is (.inr 1000)) => (Nat.lt_irrefl 1000 h).elim, fun _ => rfl, fun _ => rfl, fun _ => rfl, fun (h : zv_is (.inr 1000)) => (Nat.lt_irrefl 1000 h).elim, fun (h : zv_is (.inr 1000)) => (Nat.lt_irrefl 1000 h).elim, fun (h : zv_is (.inr 1000)) => (Nat.lt_irrefl 1000 h).elim, trivial⟩ ⟨fun _ => rfl, trivial⟩ ?_
                      exact ih _ _ _ _ _ q h hK
                    · rw [if_pos hc36] at h
                      refine zv_con hB zd94_380 rfl ?_
                      refine zv_goto hB zd94_381 rfl ?_
                      refine zv_iast hB zd94_385 rfl rfl (zi_ix_ok c26).1 (zi_ix_ok c26).2 ?_
                      refine zv_iincw hB zd94_386 rfl rfl ?_
                      refine zv_goto hB zd94_389 rfl ?_
                      refine zv_wk hB (L' := [.inr 0, .inr 1000, .inl x2, .inl (zi_w (x3 + (-1))), .inl (zi_w (x4 + 1)), .inr 1000, .inr 1000, .inr 1000]) (F' := [.inl f0]) ⟨fun _ => rfl, fun (h : zv_is (.inr 1000)) => (Nat.lt_irrefl 1000 h).elim, fun _ => rfl, fun _ => rfl, fun _ => rfl, fun (h : zv_is (.inr 1000)) => (Nat.lt_irrefl 1000 h).elim, fun (h : zv_is (.inr 1000)) => (Nat.lt_irrefl 1000 h).elim, fun (h : zv_is (.inr 1000)) => (Nat.lt_irrefl 1000 h).elim, trivial⟩ ⟨fun _ => rfl, trivial⟩ ?_
                      exact ih _ _ _ _ _ q h hK
                  · rw [if_pos hc25] at h
                    refine zv_con hB zd94_203 rfl ?_
                    have hw : (0, f0, g1) = o := zi_rk (Option.some.inj h) hK
                    subst hw
                    exact hret _ _ _ _ _ zd94_204 (by constructor <;> decide) ⟨rfl, rfl, rfl⟩
            · rw [if_pos hc5] at h
              refine zv_con hB zd94_88 rfl ?_
              have hw : (0, f0, g1) = o := zi_rk (Option.some.inj h) hK
              subst hw
              exact hret _ _ _ _ _ zd94_89 (by constructor <;> decide) ⟨rfl, rfl, rfl⟩
          · rw [if_pos hc4] at h
            refine zv_con hB zd94_80 rfl ?_
            refine zv_goto hB zd94_81 rfl ?_
            refine zv_cge hB zd94_85 rfl (fun hc37 => ?_) (fun hc37 => ?_)
            · rw [if_neg (Int.not_lt.mpr hc37)] at h
              refine zv_ald hB zd94_90 rfl rfl rfl ?_
              refine zv_getr hB zd94_91 rfl ?_
              refine zv_ild hB zd94_94 rfl rfl ?_
              obtain ⟨c38, h⟩ := zi_if h
              refine zv_iald hB zd94_95 rfl rfl (zi_ix_ok c38).1 (zi_ix_ok c38).2 (fun _ _ => ?_)
              refine zv_ist hB zd94_96 rfl rfl rfl ?_
              refine zv_ild hB zd94_98 rfl rfl ?_
              refine zv_con hB zd94_100 rfl ?_
              refine zv_cne hB zd94_101 rfl (fun hc39 => ?_) (fun hc39 => ?_)
              · rw [if_neg hc39] at h
                refine zv_ild hB zd94_123 rfl rfl ?_
                refine zv_con hB zd94_125 rfl ?_
                refine zv_cge hB zd94_126 rfl (fun hc => absurd hc (by omega)) (fun _ => ?_)
                refine zv_ild hB zd94_129 rfl rfl ?_
                refine zv_zeq hB zd94_131 rfl (fun hc41 => ?_) (fun hc41 => ?_)
                · rw [if_pos hc41] at h
                  refine zv_con hB zd94_138 rfl ?_
                  refine zv_ild hB zd94_139 rfl rfl ?_
                  refine zv_con hB zd94_141 rfl ?_
                  refine zv_cne hB zd94_142 rfl (fun hc42 => ?_) (fun hc42 => ?_)
                  · rw [if_neg hc42] at h
                    refine zv_con hB zd94_149 rfl ?_
                    refine zv_cne hB zd94_150 rfl (fun hc => absurd hc (by decide)) (fun _ => ?_)
                    refine zv_ild hB zd94_153 rfl rfl ?_
                    refine zv_ald hB zd94_155 rfl rfl rfl ?_
                    refine zv_getr hB zd94_156 rfl ?_
                    refine zv_ild hB zd94_159 rfl rfl ?_
                    refine zv_iald hB zd94_161 rfl rfl (zi_ix_ok c2).1 (zi_ix_ok c2).2 (fun _ _ => ?_)
                    refine zv_con hB zd94_162 rfl ?_
                    refine zv_subw hB zd94_163 ?_
                    obtain ⟨r44, hr44, h⟩ := zi_bind h
                    refine zv_cs hB (zv_emq (va2 := [.inl x4, .inl (zi_w ((g2 x4) - 1))]) (F := [.inl f0]) (F' := [.inl f0]) (G := [g0, g1, g2, g3]) (G' := [g0, g1, g2, g3]) (ρ := []) (φ := []) (ψ := []) [none] [none, none, none, none] zyw_Math_max zyw_Law_run zye_Law_run (by decide +kernel) (zt_Math_max hr44) trivial trivial rfl rfl rfl rfl rfl rfl rfl) zd94_164 zxt55 rfl (by decide) (by decide) rfl ?_
                    refine zv_ist hB zd94_167 rfl rfl rfl ?_
                    refine zv_goto hB zd94_169 rfl ?_
                    refine zv_iincw hB zd94_386 rfl rfl ?_
                    refine zv_goto hB zd94_389 rfl ?_
                    refine zv_wk hB (L' := [.inr 0, .inr 1000, .inl x2, .inl x3, .inl (zi_w (r44 + 1)), .inr 1000, .inr 1000, .inr 1000]) (F' := [.inl f0]) ⟨fun _ => rfl, fun (h : zv_is (.inr 1000)) => (Nat.lt_irrefl 1000 h).elim, fun _ => rfl, fun _ => rfl, fun _ => rfl, fun (h : zv_is (.inr 1000)) => (Nat.lt_irrefl 1000 h).elim, fun (h : zv_is (.inr 1000)) => (Nat.lt_irrefl 1000 h).elim, fun (h : zv_is (.inr 1000)) => (Nat.lt_irrefl 1000 h).elim, trivial⟩ ⟨fun _ => rfl, trivial⟩ ?_
                    exact ih _ _ _ _ _ q h hK
                  · rw [if_pos hc42] at h
                    refine zv_con hB zd94_145 rfl ?_
                    refine zv_goto hB zd94_146 rfl ?_
                    refine zv_cne hB zd94_150 rfl (fun _ => ?_) (fun hc => absurd hc (by decide))
                    refine zv_iincw hB zd94_172 rfl rfl ?_
                    refine zv_ild hB zd94_175 rfl rfl ?_
                    refine zv_con hB zd94_177 rfl ?_
                    refine zv_cge hB zd94_178 rfl (fun hc => absurd hc (by omega)) (fun _ => ?_)
                    refine zv_goto hB zd94_181 rfl ?_
                    refine zv_iincw hB zd94_386 rfl rfl ?_
                    refine zv_goto hB zd94_389 rfl ?_
                    refine zv_wk hB (L' := [.inr 0, .inr 1000, .inl x2, .inl (zi_w (x3 + (-1))), .inl (zi_w (x4 + 1)), .inr 1000, .inr 1000, .inr 1000]) (F' := [.inl f0]) ⟨fun _ => rfl, fun (h : zv_is (.inr 1000)) => (Nat.lt_irrefl 1000 h).elim, fun _ => rfl, fun _ => rfl, fun _ => rfl, fun (h : zv_is (.inr 1000)) => (Nat.lt_irrefl 1000 h).elim, fun (h : zv_is (.inr 1000)) => (Nat.lt_irrefl 1000 h).elim, fun (h : zv_is (.inr 1000)) => (Nat.lt_irrefl 1000 h).elim, trivial⟩ ⟨fun _ => rfl, trivial⟩ ?_
                    exact ih _ _ _ _ _ q h hK
                · rw [if_neg hc41] at h
                  refine zv_con hB zd94_134 rfl ?_
                  refine zv_goto hB zd94_135 rfl ?_
                  refine zv_ild hB zd94_139 rfl rfl ?_
                  refine zv_con hB zd94_141 rfl ?_
                  refine zv_cne hB zd94_142 rfl (fun hc47 => ?_) (fun hc47 => ?_)
                  · rw [if_neg hc47] at h
                    refine zv_con hB zd94_149 rfl ?_
                    refine zv_cne hB zd94_150 rfl (fun _ => ?_) (fun hc => absurd hc (by decide))
                    refine zv_iincw hB zd94_172 rfl rfl ?_
                    refine zv_ild hB zd94_175 rfl rfl ?_
                    refine zv_con hB zd94_177 rfl ?_
                    refine zv_cge hB zd94_178 rfl (fun hc => absurd hc (by omega)) (fun _ => ?_)
                    refine zv_goto hB zd94_181 rfl ?_
                    refine zv_iincw hB zd94_386 rfl rfl ?_
                    refine zv_goto hB zd94_389 rfl ?_
                    refine zv_wk hB (L' := [.inr 0, .inr 1000, .inl x2, .inl (zi_w (x3 + (-1))), .inl (zi_w (x4 + 1)), .inr 1000, .inr 1000, .inr 1000]) (F' := [.inl f0]) ⟨fun _ => rfl, fun (h : zv_is (.inr 1000)) => (Nat.lt_irrefl 1000 h).elim, fun _ => rfl, fun _ => rfl, fun _ => rfl, fun (h : zv_is (.inr 1000)) => (Nat.lt_irrefl 1000 h).elim, fun (h : zv_is (.inr 1000)) => (Nat.lt_irrefl 1000 h).elim, fun (h : zv_is (.inr 1000)) => (Nat.lt_irrefl 1000 h).elim, trivial⟩ ⟨fun _ => rfl, trivial⟩ ?_
                    exact ih _ _ _ _ _ q h hK
                  · rw [if_pos hc47] at h
                    refine zv_con hB zd94_145 rfl ?_
                    refine zv_goto hB zd94_146 rfl ?_
                    refine zv_cne hB zd94_150 rfl (fun hc => absurd hc (by decide)) (fun _ => ?_)
                    refine zv_ild hB zd94_153 rfl rfl ?_
                    refine zv_ald hB zd94_155 rfl rfl rfl ?_
                    refine zv_getr hB zd94_156 rfl ?_
                    refine zv_ild hB zd94_159 rfl rfl ?_
                    refine zv_iald hB zd94_161 rfl rfl (zi_ix_ok c2).1 (zi_ix_ok c2).2 (fun _ _ => ?_)
                    refine zv_con hB zd94_162 rfl ?_
                    refine zv_subw hB zd94_163 ?_
                    obtain ⟨r51, hr51, h⟩ := zi_bind h
                    refine zv_cs hB (zv_emq (va2 := [.inl x4, .inl (zi_w ((g2 x4) - 1))]) (F := [.inl f0]) (F' := [.inl f0]) (G := [g0, g1, g2, g3]) (G' := [g0, g1, g2, g3]) (ρ := []) (φ := []) (ψ := []) [none] [none, none, none, none] zyw_Math_max zyw_Law_run zye_Law_run (by decide +kernel) (zt_Math_max hr51) trivial trivial rfl rfl rfl rfl rfl rfl rfl) zd94_164 zxt55 rfl (by decide) (by decide) rfl ?_
                    refine zv_ist hB zd94_167 rfl rfl rfl ?_
                    refine zv_goto hB zd94_169 rfl ?_
                    refine zv_iincw hB zd94_386 rfl rfl ?_
                    refine zv_goto hB zd94_389 rfl ?_
                    refine zv_wk hB (L' := [.inr 0, .inr 1000, .inl x2, .inl x3, .inl (zi_w (r51 + 1)), .inr 1000, .inr 1000, .inr 1000]) (F' := [.inl f0]) ⟨fun _ => rfl, fun (h : zv_is (.inr 1000)) => (Nat.lt_irrefl 1000 h).elim, fun _ => rfl, fun _ => rfl, fun _ => rfl, fun (h : zv_is (.inr 1000)) => (Nat.lt_irrefl 1000 h).elim, fun (h : zv_is (.inr 1000)) => (Nat.lt_irrefl 1000 h).elim, fun (h : zv_is (.inr 1000)) => (Nat.lt_irrefl 1000 h).elim, trivial⟩ ⟨fun _ => rfl, trivial⟩ ?_
                    exact ih _ _ _ _ _ q h hK
              · rw [if_pos hc39] at h
                refine zv_ald hB zd94_104 rfl rfl rfl ?_
                refine zv_getr hB zd94_105 rfl ?_
                refine zv_ild hB zd94_108 rfl rfl ?_
                refine zv_ild hB zd94_109 rfl rfl ?_
                refine zv_zne hB zd94_111 rfl (fun hc52 => ?_) (fun hc52 => ?_)
                · rw [if_neg hc52] at h
                  refine zv_con hB zd94_118 rfl ?_
                  refine zv_iast hB zd94_119 rfl rfl (zi_ix_ok c38).1 (zi_ix_ok c38).2 ?_
                  refine zv_goto hB zd94_120 rfl ?_
                  refine zv_iincw hB zd94_386 rfl rfl ?_
                  refine zv_goto hB zd94_389 rfl ?_
                  refine zv_wk hB (L' := [.inr 0, .inr 1000, .inl x2, .inl x3, .inl (zi_w (x4 + 1)), .inr 1000, .inr 1000, .inr 1000]) (F' := [.inl f0]) ⟨fun _ => rfl, fun (h : zv_is (.inr 1000)) => (Nat.lt_irrefl 1000 h).elim, fun _ => rfl, fun _ => rfl, fun _ => rfl, fun (h : zv_is (.inr 1000)) => (Nat.lt_irrefl 1000 h).elim, fun (h : zv_is (.inr 1000)) => (Nat.lt_irrefl 1000 h).elim, fun (h : zv_is (.inr 1000)) => (Nat.lt_irrefl 1000 h).elim, trivial⟩ ⟨fun _ => rfl, trivial⟩ ?_
                  exact ih _ _ _ _ _ q h hK
                · rw [if_pos hc52] at h
                  refine zv_con hB zd94_114 rfl ?_
                  refine zv_goto hB zd94_115 rfl ?_
                  refine zv_iast hB zd94_119 rfl rfl (zi_ix_ok c38).1 (zi_ix_ok c38).2 ?_
                  refine zv_goto hB zd94_120 rfl ?_
                  refine zv_iincw hB zd94_386 rfl rfl ?_
                  refine zv_goto hB zd94_389 rfl ?_
                  refine zv_wk hB (L' := [.inr 0, .inr 1000, .inl x2, .inl x3, .inl (zi_w (x4 + 1)), .inr 1000, .inr 1000, .inr 1000]) (F' := [.inl f0]) ⟨fun _ => rfl, fun (h : zv_is (.inr 1000)) => (Nat.lt_irrefl 1000 h).elim, fun _ => rfl, fun _ => rfl, fun _ => rfl, fun (h : zv_is (.inr 1000)) => (Nat.lt_irrefl 1000 h).elim, fun (h : zv_is (.inr 1000)) => (Nat.lt_irrefl 1000 h).elim, fun (h : zv_is (.inr 1000)) => (Nat.lt_irrefl 1000 h).elim, trivial⟩ ⟨fun _ => rfl, trivial⟩ ?_
                  exact ih _ _ _ _ _ q h hK
            · rw [if_pos hc37] at h
              refine zv_con hB zd94_88 rfl ?_
              have hw : (0, f0, g1) = o := zi_rk (Option.some.inj h) hK
              subst hw
              exact hret _ _ _ _ _ zd94_89 (by constructor <;> decide) ⟨rfl, rfl, rfl⟩
        · rw [if_neg (Int.not_lt.mpr hc3)] at h
          refine zv_iincw hB zd94_26 rfl rfl ?_
          refine zv_ild hB zd94_29 rfl rfl ?_
          refine zv_con hB zd94_30 rfl ?_
          refine zv_clt hB zd94_32 rfl (fun hc53 => ?_) (fun hc53 => ?_)
          · rw [if_pos hc53] at h
            refine zv_ald hB zd94_37 rfl rfl rfl ?_
            refine zv_getr hB zd94_38 rfl ?_
            refine zv_ild hB zd94_41 rfl rfl ?_
            refine zv_ild hB zd94_42 rfl rfl ?_
            refine zv_zne hB zd94_44 rfl (fun hc54 => ?_) (fun hc54 => ?_)
            · rw [if_neg hc54] at h
              refine zv_ald hB zd94_57 rfl rfl rfl ?_
              refine zv_getr hB zd94_58 rfl ?_
              refine zv_ald hB zd94_61 rfl rfl rfl ?_
              refine zv_getr hB zd94_62 rfl ?_
              refine zv_ild hB zd94_65 rfl rfl ?_
              refine zv_iald hB zd94_67 rfl rfl (zi_ix_ok c2).1 (zi_ix_ok c2).2 (fun _ _ => ?_)
              obtain ⟨c55, h⟩ := zi_if h
              refine zv_iald hB zd94_68 rfl rfl (zi_ix_ok c55).1 (zi_ix_ok c55).2 (fun _ _ => ?_)
              obtain ⟨c56, h⟩ := zi_if h
              refine zv_iast hB zd94_69 rfl rfl (zi_ix_ok c56).1 (zi_ix_ok c56).2 ?_
              refine zv_goto hB zd94_70 rfl ?_
              refine zv_iincw hB zd94_386 rfl rfl ?_
              refine zv_goto hB zd94_389 rfl ?_
              refine zv_wk hB (L' := [.inr 0, .inr 1000, .inl x2, .inl (zi_w (x3 + 1)), .inl (zi_w (x4 + 1)), .inr 1000, .inr 1000, .inr 1000]) (F' := [.inl f0]) ⟨fun _ => rfl, fun (h : zv_is (.inr 1000)) => (Nat.lt_irrefl 1000 h).elim, fun _ => rfl, fun _ => rfl, fun _ => rfl, fun (h : zv_is (.inr 1000)) => (Nat.lt_irrefl 1000 h).elim, fun (h : zv_is (.inr 1000)) => (Nat.lt_irrefl 1000 h).elim, fun (h : zv_is (.inr 1000)) => (Nat.lt_irrefl 1000 h).elim, trivial⟩ ⟨fun _ => rfl, trivial⟩ ?_
              exact ih _ _ _ _ _ q h hK
            · rw [if_pos hc54] at h
              refine zv_ald hB zd94_47 rfl rfl rfl ?_
              refine zv_getr hB zd94_48 rfl ?_
              refine zv_ild hB zd94_51 rfl rfl ?_
              refine zv_iald hB zd94_53 rfl rfl (zi_ix_ok c2).1 (zi_ix_ok c2).2 (fun _ _ => ?_)
              refine zv_goto hB zd94_54 rfl ?_
              obtain ⟨c57, h⟩ := zi_if h
              refine zv_iast hB zd94_69 rfl rfl (zi_ix_ok c57).1 (zi_ix_ok c57).2 ?_
              refine zv_goto hB zd94_70 rfl ?_
              refine zv_iincw hB zd94_386 rfl rfl ?_
              refine zv_goto hB zd94_389 rfl ?_
              refine zv_wk hB (L' := [.inr 0, .inr 1000, .inl x2, .inl (zi_w (x3 + 1)), .inl (zi_w (x4 + 1)), .inr 1000, .inr 1000, .inr 1000]) (F' := [.inl f0]) ⟨fun _ => rfl, fun (h : zv_is (.inr 1000)) => (Nat.lt_irrefl 1000 h).elim, fun _ => rfl, fun _ => rfl, fun _ => rfl, fun (h : zv_is (.inr 1000)) => (Nat.lt_irrefl 1000 h).elim, fun (h : zv_is (.inr 1000)) => (Nat.lt_irrefl 1000 h).elim, fun (h : zv_is (.inr 1000)) => (Nat.lt_irrefl 1000 h).elim, trivial⟩ ⟨fun _ => rfl, trivial⟩ ?_
              exact ih _ _ _ _ _ q h hK
          · rw [if_neg (Int.not_lt.mpr hc53)] at h
            refine zv_con hB zd94_35 rfl ?_
            have hw : (0, f0, g1) = o := zi_rk (Option.some.inj h) hK
            subst hw
            exact hret _ _ _ _ _ zd94_36 (by constructor <;> decide) ⟨rfl, rfl, rfl⟩
  unfold zf_Law_run at h
  refine zv_con hB zd94_0 rfl ?_
  refine zv_ist hB zd94_1 rfl rfl rfl ?_
  refine zv_ild hB zd94_2 rfl rfl ?_
  refine zv_ist hB zd94_3 rfl rfl rfl ?_
  obtain ⟨q58, hq58, h⟩ := zi_bind h
  refine zv_wk hB (L' := [.inr 0, .inr 1000, .inl x2, .inl (-1), .inl x1, .inr 1000, .inr 1000, .inr 1000]) (F' := [.inl f0]) ⟨fun _ => rfl, fun (h : zv_is (.inr 1000)) => (Nat.lt_irrefl 1000 h).elim, fun _ => rfl, fun _ => rfl, fun _ => rfl, fun (h : zv_is (.inr 1000)) => (Nat.lt_irrefl 1000 h).elim, fun (h : zv_is (.inr 1000)) => (Nat.lt_irrefl 1000 h).elim, fun (h : zv_is (.inr 1000)) => (Nat.lt_irrefl 1000 h).elim, trivial⟩ ⟨fun _ => rfl, trivial⟩ ?_
  refine l0 _ _ _ _ _ _ q58 hq58 ?_
  rcases q58 with e59 | w62
  · replace h := zi_sl h
    show good 392 [.inr 0, .inr 1000, .inr 1000, .inl e59.1, .inr 1000, .inr 1000, .inr 1000, .inr 1000] [] [.inl f0] [g0, e59.2, g2, g3]
    refine zv_ald hB zd94_392 rfl rfl rfl ?_
    refine zv_ild hB zd94_393 rfl rfl ?_
    refine zv_zge hB zd94_394 rfl (fun hc60 => ?_) (fun hc60 => ?_)
    · rw [if_neg (Int.not_lt.mpr hc60)] at h
      refine zv_ald hB zd94_401 rfl rfl rfl ?_
      refine zv_getr hB zd94_402 rfl ?_
      refine zv_ild hB zd94_405 rfl rfl ?_
      obtain ⟨c61, h⟩ := zi_if h
      refine zv_iald hB zd94_406 rfl rfl (zi_ix_ok c61).1 (zi_ix_ok c61).2 (fun _ _ => ?_)
      refine zv_putf hB zd94_407 rfl rfl (fun h => by cases h) rfl ?_
      refine zv_con hB zd94_410 rfl ?_
      have hw := Option.some.inj h
      subst hw
      exact hret _ _ _ _ _ zd94_411 (by constructor <;> decide) ⟨rfl, rfl, rfl⟩
    · rw [if_pos hc60] at h
      refine zv_con hB zd94_397 rfl ?_
      refine zv_goto hB zd94_398 rfl ?_
      refine zv_putf hB zd94_407 rfl rfl (fun h => by cases h) rfl ?_
      refine zv_con hB zd94_410 rfl ?_
      have hw := Option.some.inj h
      subst hw
      exact hret _ _ _ _ _ zd94_411 (by constructor <;> decide) ⟨rfl, rfl, rfl⟩
  · exact Option.some.inj h
end
section
/-! Methods as functions, and that they do what these do. -/
/-! Law_anyHolds (I)Z -/
-- names: 0 Law('arg', 0), 1 (0, 14)(0, 4, 3), 2 (0, 14)(0, 4, 5), 3 (0, 14)(0, 4, 6), 4 (0, 200)(0, 4, 0), 5 (0, 40)(0, 4, 13), 6 (0, 200)(0, 4, 1), 7 (0, 13)(0, 4, 12)
-- fields: f0 = 0.clauses_, f1 = 0.answer_; arrays: g0 = 1, g1 = 2, g2 = 3, g3 = 4, g4 = 5, g5 = 6, g6 = 7; out: [('ret', None), ('f', 1), ('g', 4)]
abbrev zy_Law_anyHolds : zNL := (8, [(0, 4)], [(0, 4, 7, 0), (0, 4, 14, 1)], [(0, 4, 3, 1), (0, 4, 5, 2), (0, 4, 6, 3), (0, 4, 0, 4), (0, 4, 13, 5), (0, 4, 1, 6), (0, 4, 12, 7)], [(1, 0, 14, 0), (2, 0, 14, 1), (3, 0, 14, 2), (4, 0, 200, 3), (5, 0, 40, 4), (6, 0, 200, 5), (7, 0, 13, 6)])
theorem zyw_Law_anyHolds : zv_wf zy_Law_anyHolds = true := by decide +kernel
theorem zye_Law_anyHolds : zv_ek2 zy_Law_anyHolds = true := by decide +kernel
def zf_Law_anyHolds_l0_b (x1 : Int) (f0 : Int) (g0 : (Int → Int)) (g1 : (Int → Int)) (g2 : (Int → Int)) (g3 : (Int → Int)) (g5 : (Int → Int)) (g6 : (Int → Int)) (rec : Int → Int → (Int → Int) → Option (((Int × (Int → Int)) ⊕ (Int × Int × (Int → Int))))) (x2 : Int) (f1 : Int) (g4 : (Int → Int)) : Option (((Int × (Int → Int)) ⊕ (Int × Int × (Int → Int)))) := if x2 < f0 then (cond (zi_ix x2 14) (if (g0 x2) = x1 then ((zf_Law_run (g1 x2) (g2 x2) f1 g3 g4 g5 g6).bind fun r4 => (if r4.1 = 0 then (rec (zi_w (x2 + 1)) r4.2.1 r4.2.2) else (if r4.2.1 = 0 then (rec (zi_w (x2 + 1)) r4.2.1 r4.2.2) else (some (.inr (1, r4.2.1, r4.2.2)))))) else (rec (zi_w (x2 + 1)) f1 g4)) none) else (some (.inl (f1, g4)))
def zf_Law_anyHolds_l0 (x1 : Int) (f0 : Int) (g0 : (Int → Int)) (g1 : (Int → Int)) (g2 : (Int → Int)) (g3 : (Int → Int)) (g5 : (Int → Int)) (g6 : (Int → Int)) : Nat → Int → Int → (Int → Int) → Option (((Int × (Int → Int)) ⊕ (Int × Int × (Int → Int))))
  | 0, _, _, _ => none
  | n + 1, x2, f1, g4 => zf_Law_anyHolds_l0_b x1 f0 g0 g1 g2 g3 g5 g6 (zf_Law_anyHolds_l0 x1 f0 g0 g1 g2 g3 g5 g6 n) x2 f1 g4
def zf_Law_anyHolds (x1 : Int) (f0 : Int) (f1 : Int) (g0 : (Int → Int)) (g1 : (Int → Int)) (g2 : (Int → Int)) (g3 : (Int → Int)) (g4 : (Int → Int)) (g5 : (Int → Int)) (g6 : (Int → Int)) : Option (Int × Int × (Int → Int)) := (zf_Law_anyHolds_l0 x1 f0 g0 g1 g2 g3 g5 g6 zi_fu 0 f1 g4).bind fun q7 => Sum.elim (fun e8 => (some (0, e8.1, e8.2))) (fun w9 => some w9) q7
theorem zd93_0 : decode zxm93.2.1 0 = .ok (.iconst 0, 1) := by decide +kernel
theorem zd93_1 : decode zxm93.2.1 1 = .ok (.istore_n 2, 1) := by decide +kernel
theorem zd93_2 : decode zxm93.2.1 2 = .ok (.iload_n 2, 1) := by decide +kernel
theorem zd93_3 : decode zxm93.2.1 3 = .ok (.aload_n 0, 1) := by decide +kernel
theorem zd93_4 : decode zxm93.2.1 4 = .ok (.getfield 32, 3) := by decide +kernel
theorem zd93_7 : decode zxm93.2.1 7 = .ok (.if_icmp .ge 47, 3) := by decide +kernel
theorem zd93_10 : decode zxm93.2.1 10 = .ok (.aload_n 0, 1) := by decide +kernel
theorem zd93_11 : decode zxm93.2.1 11 = .ok (.getfield 20, 3) := by decide +kernel
theorem zd93_14 : decode zxm93.2.1 14 = .ok (.iload_n 2, 1) := by decide +kernel
theorem zd93_15 : decode zxm93.2.1 15 = .ok (.iaload, 1) := by decide +kernel
theorem zd93_16 : decode zxm93.2.1 16 = .ok (.iload_n 1, 1) := by decide +kernel
theorem zd93_17 : decode zxm93.2.1 17 = .ok (.if_icmp .ne 31, 3) := by decide +kernel
theorem zd93_20 : decode zxm93.2.1 20 = .ok (.aload_n 0, 1) := by decide +kernel
theorem zd93_21 : decode zxm93.2.1 21 = .ok (.aload_n 0, 1) := by decide +kernel
theorem zd93_22 : decode zxm93.2.1 22 = .ok (.getfield 26, 3) := by decide +kernel
theorem zd93_25 : decode zxm93.2.1 25 = .ok (.iload_n 2, 1) := by decide +kernel
theorem zd93_26 : decode zxm93.2.1 26 = .ok (.iaload, 1) := by decide +kernel
theorem zd93_27 : decode zxm93.2.1 27 = .ok (.aload_n 0, 1) := by decide +kernel
theorem zd93_28 : decode zxm93.2.1 28 = .ok (.getfield 29, 3) := by decide +kernel
theorem zd93_31 : decode zxm93.2.1 31 = .ok (.iload_n 2, 1) := by decide +kernel
theorem zd93_32 : decode zxm93.2.1 32 = .ok (.iaload, 1) := by decide +kernel
theorem zd93_33 : decode zxm93.2.1 33 = .ok (.invokevirtual 93, 3) := by decide +kernel
theorem zd93_36 : decode zxm93.2.1 36 = .ok (.ifCond .eq 12, 3) := by decide +kernel
theorem zd93_39 : decode zxm93.2.1 39 = .ok (.aload_n 0, 1) := by decide +kernel
theorem zd93_40 : decode zxm93.2.1 40 = .ok (.getfield 62, 3) := by decide +kernel
theorem zd93_43 : decode zxm93.2.1 43 = .ok (.ifCond .eq 5, 3) := by decide +kernel
theorem zd93_46 : decode zxm93.2.1 46 = .ok (.iconst 1, 1) := by decide +kernel
theorem zd93_47 : decode zxm93.2.1 47 = .ok (.ireturn, 1) := by decide +kernel
theorem zd93_48 : decode zxm93.2.1 48 = .ok (.iinc 2 1, 3) := by decide +kernel
theorem zd93_51 : decode zxm93.2.1 51 = .ok (.goto (-49), 3) := by decide +kernel
theorem zd93_54 : decode zxm93.2.1 54 = .ok (.iconst 0, 1) := by decide +kernel
theorem zd93_55 : decode zxm93.2.1 55 = .ok (.ireturn, 1) := by decide +kernel
theorem zt_Law_anyHolds {x1 : Int} {f0 : Int} {f1 : Int} {g0 : (Int → Int)} {g1 : (Int → Int)} {g2 : (Int → Int)} {g3 : (Int → Int)} {g4 : (Int → Int)} {g5 : (Int → Int)} {g6 : (Int → Int)} {o : Int × Int × (Int → Int)} (h : zf_Law_anyHolds x1 f0 f1 g0 g1 g2 g3 g4 g5 g6 = some o) : zv_Fn z_TB z_cl z_KX zy_Law_anyHolds zxm93 (2, 120) [.inr 0, .inl x1] [.inl f0, .inl f1] [g0, g1, g2, g3, g4, g5, g6] (some o.1) [.inl f0, .inl o.2.1] [g0, g1, g2, g3, o.2.2, g5, g6] := zv_meth (K := (z_KF2, z_KC2, z_KL2, z_KT2, [], [], [], none)) (FT := z_FT) (MT := z_MT) (n := 2) zxp93 (z_ks2 _ (fun _ h => List.mem_cons_of_mem _ h) _ _ _ _ (fun j r h _ => by cases h)) (fun _ _ => zs_KX_p) zyw_Law_anyHolds (fun va F G h => by obtain ⟨rfl, _⟩ := h; rfl) (fun va F G h => by obtain ⟨rfl, _⟩ := h; rfl) rfl fun good va F G hB hret hvret hP => by
  obtain ⟨rfl, rfl, rfl⟩ := hP
  have l0 : ∀ (n : Nat) (x1 : Int) (x2 : Int) (f1 : Int) (g4 : (Int → Int)) (q : ((Int × (Int → Int)) ⊕ (Int × Int × (Int → Int)))), zf_Law_anyHolds_l0 x1 f0 g0 g1 g2 g3 g5 g6 n x2 f1 g4 = some q → (Sum.elim (fun e : Int × (Int → Int) => good 54 [.inr 1000, .inr 1000, .inr 1000] [] [.inl f0, .inl e.1] [g0, g1, g2, g3, e.2, g5, g6]) (fun w : Int × Int × (Int → Int) => w = o) q) → good 2 [.inr 0, .inl x1, .inl x2] [] [.inl f0, .inl f1] [g0, g1, g2, g3, g4, g5, g6] := by
    intro n
    induction n with
    | zero => intro x1 x2 f1 g4 q h; exact absurd (show none = some q from h) (fun h => by cases h)
    | succ n ih =>
      intro x1 x2 f1 g4 q h hK
      replace h : zf_Law_anyHolds_l0_b x1 f0 g0 g1 g2 g3 g5 g6 (zf_Law_anyHolds_l0 x1 f0 g0 g1 g2 g3 g5 g6 n) x2 f1 g4 = some q := h
      unfold zf_Law_anyHolds_l0_b at h
      refine zv_ild hB zd93_2 rfl rfl ?_
      refine zv_ald hB zd93_3 rfl rfl rfl ?_
      refine zv_getf hB zd93_4 rfl rfl (fun _ _ => ?_)
      refine zv_cge hB zd93_7 rfl (fun hc1 => ?_) (fun hc1 => ?_)
      · rw [if_neg (Int.not_lt.mpr hc1)] at h
        have hq := Option.some.inj h
        subst hq
        refine zv_wk hB (L' := [.inr 1000, .inr 1000, .inr 1000]) (F' := [.inl f0, .inl f1]) ⟨fun (h : zv_is (.inr 1000)) => (Nat.lt_irrefl 1000 h).elim, fun (h : zv_is (.inr 1000)) => (Nat.lt_irrefl 1000 h).elim, fun (h : zv_is (.inr 1000)) => (Nat.lt_irrefl 1000 h).elim, trivial⟩ ⟨fun _ => rfl, fun _ => rfl, trivial⟩ ?_
        exact hK
      · rw [if_pos hc1] at h
        refine zv_ald hB zd93_10 rfl rfl rfl ?_
        refine zv_getr hB zd93_11 rfl ?_
        refine zv_ild hB zd93_14 rfl rfl ?_
        obtain ⟨c2, h⟩ := zi_if h
        refine zv_iald hB zd93_15 rfl rfl (zi_ix_ok c2).1 (zi_ix_ok c2).2 (fun _ _ => ?_)
        refine zv_ild hB zd93_16 rfl rfl ?_
        refine zv_cne hB zd93_17 rfl (fun hc3 => ?_) (fun hc3 => ?_)
        · rw [if_neg hc3] at h
          refine zv_iincw hB zd93_48 rfl rfl ?_
          refine zv_goto hB zd93_51 rfl ?_
          exact ih _ _ _ _ q h hK
        · rw [if_pos hc3] at h
          refine zv_ald hB zd93_20 rfl rfl rfl ?_
          refine zv_ald hB zd93_21 rfl rfl rfl ?_
          refine zv_getr hB zd93_22 rfl ?_
          refine zv_ild hB zd93_25 rfl rfl ?_
          refine zv_iald hB zd93_26 rfl rfl (zi_ix_ok c2).1 (zi_ix_ok c2).2 (fun _ _ => ?_)
          refine zv_ald hB zd93_27 rfl rfl rfl ?_
          refine zv_getr hB zd93_28 rfl ?_
          refine zv_ild hB zd93_31 rfl rfl ?_
          refine zv_iald hB zd93_32 rfl rfl (zi_ix_ok c2).1 (zi_ix_ok c2).2 (fun _ _ => ?_)
          obtain ⟨r4, hr4, h⟩ := zi_bind h
          refine zv_cv hB (zv_emq (va2 := [.inr 0, .inl (g1 x2), .inl (g2 x2)]) (F := [.inl f0, .inl f1]) (F' := [.inl f0, .inl r4.2.1]) (G := [g0, g1, g2, g3, g4, g5, g6]) (G' := [g0, g1, g2, g3, r4.2.2, g5, g6]) (ρ := [0, 4, 5, 6, 7]) (φ := [1]) (ψ := [3, 4, 5, 6]) [none, some 0] [none, none, none, some 0, some 1, some 2, some 3] zyw_Law_run zyw_Law_anyHolds zye_Law_anyHolds (by decide +kernel) (zt_Law_run hr4) ⟨⟨_, rfl, fun _ => rfl⟩, trivial⟩ ⟨rfl, rfl, rfl, rfl, trivial⟩ rfl rfl rfl rfl rfl rfl rfl) zd93_33 zxt94 rfl (by decide) (by decide) rfl ?_
          refine zv_zeq hB zd93_36 rfl (fun hc5 => ?_) (fun hc5 => ?_)
          · rw [if_pos hc5] at h
            refine zv_iincw hB zd93_48 rfl rfl ?_
            refine zv_goto hB zd93_51 rfl ?_
            exact ih _ _ _ _ q h hK
          · rw [if_neg hc5] at h
            refine zv_ald hB zd93_39 rfl rfl rfl ?_
            refine zv_getf hB zd93_40 rfl rfl (fun _ _ => ?_)
            refine zv_zeq hB zd93_43 rfl (fun hc6 => ?_) (fun hc6 => ?_)
            · rw [if_pos hc6] at h
              refine zv_iincw hB zd93_48 rfl rfl ?_
              refine zv_goto hB zd93_51 rfl ?_
              exact ih _ _ _ _ q h hK
            · rw [if_neg hc6] at h
              refine zv_con hB zd93_46 rfl ?_
              have hw : (1, r4.2.1, r4.2.2) = o := zi_rk (Option.some.inj h) hK
              subst hw
              exact hret _ _ _ _ _ zd93_47 (by constructor <;> decide) ⟨rfl, rfl, rfl⟩
  unfold zf_Law_anyHolds at h
  refine zv_con hB zd93_0 rfl ?_
  refine zv_ist hB zd93_1 rfl rfl rfl ?_
  obtain ⟨q7, hq7, h⟩ := zi_bind h
  refine l0 _ _ _ _ _ q7 hq7 ?_
  rcases q7 with e8 | w9
  · replace h := zi_sl h
    show good 54 [.inr 1000, .inr 1000, .inr 1000] [] [.inl f0, .inl e8.1] [g0, g1, g2, g3, e8.2, g5, g6]
    refine zv_con hB zd93_54 rfl ?_
    have hw := Option.some.inj h
    subst hw
    exact hret _ _ _ _ _ zd93_55 (by constructor <;> decide) ⟨rfl, rfl, rfl⟩
  · exact Option.some.inj h
/-! View_sees (I)Z -/
-- names: 0 View('arg', 0), 1 Sky(0, 7, 0), 2 (0, 24)(1, 1, 1), 3 (0, 24)(1, 1, 2), 4 Law(0, 7, 1), 5 (0, 13)(4, 4, 12), 6 (0, 24)(1, 1, 3), 7 (0, 14)(4, 4, 3), 8 (0, 14)(4, 4, 5), 9 (0, 14)(4, 4, 6), 10 (0, 200)(4, 4, 0), 11 (0, 40)(4, 4, 13), 12 (0, 200)(4, 4, 1)
-- fields: f0 = 0.sky_, f1 = 1.told_, f2 = 1.hour_, f3 = 0.x_, f4 = 0.y_, f5 = 1.sightColumns_, f6 = 1.sightRows_, f7 = 1.clouds_, f8 = 0.law_, f9 = 4.tellsSeen_, f10 = 0.starsAsked_, f11 = 0.starsHold_, f12 = 4.clauses_, f13 = 4.answer_, f14 = 4.seenByPlace_; arrays: g0 = 2, g1 = 3, g2 = 5, g3 = 6, g4 = 7, g5 = 8, g6 = 9, g7 = 10, g8 = 11, g9 = 12; out: [('ret', None), ('f', 10), ('f', 11), ('f', 13), ('g', 2), ('g', 8)]
abbrev zy_View_sees : zNL := (13, [(0, 7), (1, 1), (4, 4)], [(0, 7, 0, 0), (1, 1, 0, 1), (1, 1, 6, 2), (0, 7, 2, 3), (0, 7, 3, 4), (1, 1, 9, 5), (1, 1, 10, 6), (1, 1, 8, 7), (0, 7, 1, 8), (4, 4, 8, 9), (0, 7, 6, 10), (0, 7, 7, 11), (4, 4, 7, 12), (4, 4, 14, 13), (4, 4, 10, 14)], [(1, 1, 1, 2), (1, 1, 2, 3), (4, 4, 12, 5), (1, 1, 3, 6), (4, 4, 3, 7), (4, 4, 5, 8), (4, 4, 6, 9), (4, 4, 0, 10), (4, 4, 13, 11), (4, 4, 1, 12)], [(2, 0, 24, 0), (3, 0, 24, 1), (5, 0, 13, 2), (6, 0, 24, 3), (7, 0, 14, 4), (8, 0, 14, 5), (9, 0, 14, 6), (10, 0, 200, 7), (11, 0, 40, 8), (12, 0, 200, 9)])
theorem zyw_View_sees : zv_wf zy_View_sees = true := by decide +kernel
theorem zye_View_sees : zv_ek2 zy_View_sees = true := by decide +kernel
def zf_View_sees (x1 : Int) (f1 : Int) (f2 : Int) (f3 : Int) (f4 : Int) (f5 : Int) (f6 : Int) (f7 : Int) (f9 : Int) (f10 : Int) (f11 : Int) (f12 : Int) (f13 : Int) (f14 : Int) (g0 : (Int → Int)) (g1 : (Int → Int)) (g2 : (Int → Int)) (g3 : (Int → Int)) (g4 : (Int → Int)) (g5 : (Int → Int)) (g6 : (Int → Int)) (g7 : (Int → Int)) (g8 : (Int → Int)) (g9 : (Int → Int)) : Option (Int × Int × Int × Int × (Int → Int) × (Int → Int)) := (zf_Sky_hasStar x1 f1).bind fun r1 => (if r1 = 0 then (some (0, f10, f11, f13, g2, g8)) else ((zf_Sky_standing x1 f2 g0).bind fun r3 => ((zf_X_columnsBetween r3 f3).bind fun r4 => (cond (zi_ix x1 24) ((zf_Math_abs (zi_w ((g1 x1) - f4))).bind fun r6 => (if f5 < r4 then (some (0, f10, f11, f13, g2, g8)) else (if f6 < r6 then (some (0, f10, f11, f13, g2, g8)) else (if (zi_and (zi_shr f7 r3) 1) = 0 then (if f9 = 0 then (some (1, f10, f11, f13, g2, g8)) else (if (zi_and (zi_shr f10 x1) 1) = 0 then ((zf_Law_setStar x1 f2 g2 g3 g1 g0).bind fun r16 => ((zf_Law_anyHolds 118 f12 f13 g4 g5 g6 g7 g8 g9 (zv_up r16 12 (zi_w (r4 + r6)))).bind fun r17 => (if r17.1 = 0 then (if f14 = 0 then (if (zi_and (zi_shr (zi_and f11 (zi_xor (zi_shl 1 x1) (-1))) x1) 1) = 0 then (some (0, (zi_or f10 (zi_shl 1 x1)), (zi_and f11 (zi_xor (zi_shl 1 x1) (-1))), r17.2.1, (zv_up r16 12 (zi_w (r4 + r6))), r17.2.2)) else (some (1, (zi_or f10 (zi_shl 1 x1)), (zi_and f11 (zi_xor (zi_shl 1 x1) (-1))), r17.2.1, (zv_up r16 12 (zi_w (r4 + r6))), r17.2.2))) else (if (zi_and (zi_shr (zi_and f11 (zi_xor (zi_shl 1 x1) (-1))) x1) 1) = 0 then (some (0, f10, (zi_and f11 (zi_xor (zi_shl 1 x1) (-1))), r17.2.1, (zv_up r16 12 (zi_w (r4 + r6))), r17.2.2)) else (some (1, f10, (zi_and f11 (zi_xor (zi_shl 1 x1) (-1))), r17.2.1, (zv_up r16 12 (zi_w (r4 + r6))), r17.2.2)))) else (if f14 = 0 then (if (zi_and (zi_shr (zi_or f11 (zi_shl 1 x1)) x1) 1) = 0 then (some (0, (zi_or f10 (zi_shl 1 x1)), (zi_or f11 (zi_shl 1 x1)), r17.2.1, (zv_up r16 12 (zi_w (r4 + r6))), r17.2.2)) else (some (1, (zi_or f10 (zi_shl 1 x1)), (zi_or f11 (zi_shl 1 x1)), r17.2.1, (zv_up r16 12 (zi_w (r4 + r6))), r17.2.2))) else (if (zi_and (zi_shr (zi_or f11 (zi_shl 1 x1)) x1) 1) = 0 then (some (0, f10, (zi_or f11 (zi_shl 1 x1)), r17.2.1, (zv_up r16 12 (zi_w (r4 + r6))), r17.2.2)) else (some (1, f10, (zi_or f11 (zi_shl 1 x1)), r17.2.1, (zv_up r16 12 (zi_w (r4 + r6))), r17.2.2))))))) else (if (zi_and (zi_shr f11 x1) 1) = 0 then (some (0, f10, f11, f13, g2, g8)) else (some (1, f10, f11, f13, g2, g8))))) else (some (0, f10, f11, f13, g2, g8)))))) none))))
theorem zd89_0 : decode zxm89.2.1 0 = .ok (.aload_n 0, 1) := by decide +kernel
theorem zd89_1 : decode zxm89.2.1 1 = .ok (.getfield 37, 3) := by decide +kernel
theorem zd89_4 : decode zxm89.2.1 4 = .ok (.iload_n 1, 1) := by decide +kernel
theorem zd89_5 : decode zxm89.2.1 5 = .ok (.invokevirtual 71, 3) := by decide +kernel
theorem zd89_8 : decode zxm89.2.1 8 = .ok (.ifCond .ne 5, 3) := by decide +kernel
theorem zd89_11 : decode zxm89.2.1 11 = .ok (.iconst 0, 1) := by decide +kernel
theorem zd89_12 : decode zxm89.2.1 12 = .ok (.ireturn, 1) := by decide +kernel
theorem zd89_13 : decode zxm89.2.1 13 = .ok (.aload_n 0, 1) := by decide +kernel
theorem zd89_14 : decode zxm89.2.1 14 = .ok (.getfield 37, 3) := by decide +kernel
theorem zd89_17 : decode zxm89.2.1 17 = .ok (.iload_n 1, 1) := by decide +kernel
theorem zd89_18 : decode zxm89.2.1 18 = .ok (.invokevirtual 76, 3) := by decide +kernel
theorem zd89_21 : decode zxm89.2.1 21 = .ok (.istore_n 2, 1) := by decide +kernel
theorem zd89_22 : decode zxm89.2.1 22 = .ok (.iload_n 2, 1) := by decide +kernel
theorem zd89_23 : decode zxm89.2.1 23 = .ok (.aload_n 0, 1) := by decide +kernel
theorem zd89_24 : decode zxm89.2.1 24 = .ok (.getfield 9, 3) := by decide +kernel
theorem zd89_27 : decode zxm89.2.1 27 = .ok (.invokestatic 80, 3) := by decide +kernel
theorem zd89_30 : decode zxm89.2.1 30 = .ok (.istore_n 3, 1) := by decide +kernel
theorem zd89_31 : decode zxm89.2.1 31 = .ok (.aload_n 0, 1) := by decide +kernel
theorem zd89_32 : decode zxm89.2.1 32 = .ok (.getfield 37, 3) := by decide +kernel
theorem zd89_35 : decode zxm89.2.1 35 = .ok (.getfield 84, 3) := by decide +kernel
theorem zd89_38 : decode zxm89.2.1 38 = .ok (.iload_n 1, 1) := by decide +kernel
theorem zd89_39 : decode zxm89.2.1 39 = .ok (.iaload, 1) := by decide +kernel
theorem zd89_40 : decode zxm89.2.1 40 = .ok (.aload_n 0, 1) := by decide +kernel
theorem zd89_41 : decode zxm89.2.1 41 = .ok (.getfield 15, 3) := by decide +kernel
theorem zd89_44 : decode zxm89.2.1 44 = .ok (.isub, 1) := by decide +kernel
theorem zd89_45 : decode zxm89.2.1 45 = .ok (.invokestatic 87, 3) := by decide +kernel
theorem zd89_48 : decode zxm89.2.1 48 = .ok (.istore 4, 2) := by decide +kernel
theorem zd89_50 : decode zxm89.2.1 50 = .ok (.iload_n 3, 1) := by decide +kernel
theorem zd89_51 : decode zxm89.2.1 51 = .ok (.aload_n 0, 1) := by decide +kernel
theorem zd89_52 : decode zxm89.2.1 52 = .ok (.getfield 37, 3) := by decide +kernel
theorem zd89_55 : decode zxm89.2.1 55 = .ok (.getfield 92, 3) := by decide +kernel
theorem zd89_58 : decode zxm89.2.1 58 = .ok (.if_icmp .gt 19, 3) := by decide +kernel
theorem zd89_61 : decode zxm89.2.1 61 = .ok (.iload 4, 2) := by decide +kernel
theorem zd89_63 : decode zxm89.2.1 63 = .ok (.aload_n 0, 1) := by decide +kernel
theorem zd89_64 : decode zxm89.2.1 64 = .ok (.getfield 37, 3) := by decide +kernel
theorem zd89_67 : decode zxm89.2.1 67 = .ok (.getfield 95, 3) := by decide +kernel
theorem zd89_70 : decode zxm89.2.1 70 = .ok (.if_icmp .gt 7, 3) := by decide +kernel
theorem zd89_73 : decode zxm89.2.1 73 = .ok (.iconst 1, 1) := by decide +kernel
theorem zd89_74 : decode zxm89.2.1 74 = .ok (.goto 4, 3) := by decide +kernel
theorem zd89_77 : decode zxm89.2.1 77 = .ok (.iconst 0, 1) := by decide +kernel
theorem zd89_78 : decode zxm89.2.1 78 = .ok (.istore 5, 2) := by decide +kernel
theorem zd89_80 : decode zxm89.2.1 80 = .ok (.iload 5, 2) := by decide +kernel
theorem zd89_82 : decode zxm89.2.1 82 = .ok (.ifCond .eq 17, 3) := by decide +kernel
theorem zd89_85 : decode zxm89.2.1 85 = .ok (.aload_n 0, 1) := by decide +kernel
theorem zd89_86 : decode zxm89.2.1 86 = .ok (.getfield 37, 3) := by decide +kernel
theorem zd89_89 : decode zxm89.2.1 89 = .ok (.getfield 98, 3) := by decide +kernel
theorem zd89_92 : decode zxm89.2.1 92 = .ok (.iload_n 2, 1) := by decide +kernel
theorem zd89_93 : decode zxm89.2.1 93 = .ok (.ishr, 1) := by decide +kernel
theorem zd89_94 : decode zxm89.2.1 94 = .ok (.iconst 1, 1) := by decide +kernel
theorem zd89_95 : decode zxm89.2.1 95 = .ok (.iand, 1) := by decide +kernel
theorem zd89_96 : decode zxm89.2.1 96 = .ok (.ifCond .eq 5, 3) := by decide +kernel
theorem zd89_99 : decode zxm89.2.1 99 = .ok (.iconst 0, 1) := by decide +kernel
theorem zd89_100 : decode zxm89.2.1 100 = .ok (.ireturn, 1) := by decide +kernel
theorem zd89_101 : decode zxm89.2.1 101 = .ok (.aload_n 0, 1) := by decide +kernel
theorem zd89_102 : decode zxm89.2.1 102 = .ok (.getfield 41, 3) := by decide +kernel
theorem zd89_105 : decode zxm89.2.1 105 = .ok (.getfield 101, 3) := by decide +kernel
theorem zd89_108 : decode zxm89.2.1 108 = .ok (.ifCond .ne 5, 3) := by decide +kernel
theorem zd89_111 : decode zxm89.2.1 111 = .ok (.iconst 1, 1) := by decide +kernel
theorem zd89_112 : decode zxm89.2.1 112 = .ok (.ireturn, 1) := by decide +kernel
theorem zd89_113 : decode zxm89.2.1 113 = .ok (.aload_n 0, 1) := by decide +kernel
theorem zd89_114 : decode zxm89.2.1 114 = .ok (.getfield 25, 3) := by decide +kernel
theorem zd89_117 : decode zxm89.2.1 117 = .ok (.iload_n 1, 1) := by decide +kernel
theorem zd89_118 : decode zxm89.2.1 118 = .ok (.ishr, 1) := by decide +kernel
theorem zd89_119 : decode zxm89.2.1 119 = .ok (.iconst 1, 1) := by decide +kernel
theorem zd89_120 : decode zxm89.2.1 120 = .ok (.iand, 1) := by decide +kernel
theorem zd89_121 : decode zxm89.2.1 121 = .ok (.ifCond .ne 92, 3) := by decide +kernel
theorem zd89_124 : decode zxm89.2.1 124 = .ok (.aload_n 0, 1) := by decide +kernel
theorem zd89_125 : decode zxm89.2.1 125 = .ok (.getfield 41, 3) := by decide +kernel
theorem zd89_128 : decode zxm89.2.1 128 = .ok (.aload_n 0, 1) := by decide +kernel
theorem zd89_129 : decode zxm89.2.1 129 = .ok (.getfield 37, 3) := by decide +kernel
theorem zd89_132 : decode zxm89.2.1 132 = .ok (.iload_n 1, 1) := by decide +kernel
theorem zd89_133 : decode zxm89.2.1 133 = .ok (.invokevirtual 105, 3) := by decide +kernel
theorem zd89_136 : decode zxm89.2.1 136 = .ok (.aload_n 0, 1) := by decide +kernel
theorem zd89_137 : decode zxm89.2.1 137 = .ok (.getfield 41, 3) := by decide +kernel
theorem zd89_140 : decode zxm89.2.1 140 = .ok (.getfield 60, 3) := by decide +kernel
theorem zd89_143 : decode zxm89.2.1 143 = .ok (.bipush 12, 2) := by decide +kernel
theorem zd89_145 : decode zxm89.2.1 145 = .ok (.iload_n 3, 1) := by decide +kernel
theorem zd89_146 : decode zxm89.2.1 146 = .ok (.iload 4, 2) := by decide +kernel
theorem zd89_148 : decode zxm89.2.1 148 = .ok (.iadd, 1) := by decide +kernel
theorem zd89_149 : decode zxm89.2.1 149 = .ok (.iastore, 1) := by decide +kernel
theorem zd89_150 : decode zxm89.2.1 150 = .ok (.aload_n 0, 1) := by decide +kernel
theorem zd89_151 : decode zxm89.2.1 151 = .ok (.getfield 41, 3) := by decide +kernel
theorem zd89_154 : decode zxm89.2.1 154 = .ok (.bipush 118, 2) := by decide +kernel
theorem zd89_156 : decode zxm89.2.1 156 = .ok (.invokevirtual 109, 3) := by decide +kernel
theorem zd89_159 : decode zxm89.2.1 159 = .ok (.ifCond .eq 18, 3) := by decide +kernel
theorem zd89_162 : decode zxm89.2.1 162 = .ok (.aload_n 0, 1) := by decide +kernel
theorem zd89_163 : decode zxm89.2.1 163 = .ok (.dup, 1) := by decide +kernel
theorem zd89_164 : decode zxm89.2.1 164 = .ok (.getfield 28, 3) := by decide +kernel
theorem zd89_167 : decode zxm89.2.1 167 = .ok (.iconst 1, 1) := by decide +kernel
theorem zd89_168 : decode zxm89.2.1 168 = .ok (.iload_n 1, 1) := by decide +kernel
theorem zd89_169 : decode zxm89.2.1 169 = .ok (.ishl, 1) := by decide +kernel
theorem zd89_170 : decode zxm89.2.1 170 = .ok (.ior, 1) := by decide +kernel
theorem zd89_171 : decode zxm89.2.1 171 = .ok (.putfield 28, 3) := by decide +kernel
theorem zd89_174 : decode zxm89.2.1 174 = .ok (.goto 17, 3) := by decide +kernel
theorem zd89_177 : decode zxm89.2.1 177 = .ok (.aload_n 0, 1) := by decide +kernel
theorem zd89_178 : decode zxm89.2.1 178 = .ok (.dup, 1) := by decide +kernel
theorem zd89_179 : decode zxm89.2.1 179 = .ok (.getfield 28, 3) := by decide +kernel
theorem zd89_182 : decode zxm89.2.1 182 = .ok (.iconst 1, 1) := by decide +kernel
theorem zd89_183 : decode zxm89.2.1 183 = .ok (.iload_n 1, 1) := by decide +kernel
theorem zd89_184 : decode zxm89.2.1 184 = .ok (.ishl, 1) := by decide +kernel
theorem zd89_185 : decode zxm89.2.1 185 = .ok (.iconst (-1), 1) := by decide +kernel
theorem zd89_186 : decode zxm89.2.1 186 = .ok (.ixor, 1) := by decide +kernel
theorem zd89_187 : decode zxm89.2.1 187 = .ok (.iand, 1) := by decide +kernel
theorem zd89_188 : decode zxm89.2.1 188 = .ok (.putfield 28, 3) := by decide +kernel
theorem zd89_191 : decode zxm89.2.1 191 = .ok (.aload_n 0, 1) := by decide +kernel
theorem zd89_192 : decode zxm89.2.1 192 = .ok (.getfield 41, 3) := by decide +kernel
theorem zd89_195 : decode zxm89.2.1 195 = .ok (.getfield 112, 3) := by decide +kernel
theorem zd89_198 : decode zxm89.2.1 198 = .ok (.ifCond .ne 15, 3) := by decide +kernel
theorem zd89_201 : decode zxm89.2.1 201 = .ok (.aload_n 0, 1) := by decide +kernel
theorem zd89_202 : decode zxm89.2.1 202 = .ok (.dup, 1) := by decide +kernel
theorem zd89_203 : decode zxm89.2.1 203 = .ok (.getfield 25, 3) := by decide +kernel
theorem zd89_206 : decode zxm89.2.1 206 = .ok (.iconst 1, 1) := by decide +kernel
theorem zd89_207 : decode zxm89.2.1 207 = .ok (.iload_n 1, 1) := by decide +kernel
theorem zd89_208 : decode zxm89.2.1 208 = .ok (.ishl, 1) := by decide +kernel
theorem zd89_209 : decode zxm89.2.1 209 = .ok (.ior, 1) := by decide +kernel
theorem zd89_210 : decode zxm89.2.1 210 = .ok (.putfield 25, 3) := by decide +kernel
theorem zd89_213 : decode zxm89.2.1 213 = .ok (.aload_n 0, 1) := by decide +kernel
theorem zd89_214 : decode zxm89.2.1 214 = .ok (.getfield 28, 3) := by decide +kernel
theorem zd89_217 : decode zxm89.2.1 217 = .ok (.iload_n 1, 1) := by decide +kernel
theorem zd89_218 : decode zxm89.2.1 218 = .ok (.ishr, 1) := by decide +kernel
theorem zd89_219 : decode zxm89.2.1 219 = .ok (.iconst 1, 1) := by decide +kernel
theorem zd89_220 : decode zxm89.2.1 220 = .ok (.iand, 1) := by decide +kernel
theorem zd89_221 : decode zxm89.2.1 221 = .ok (.ifCond .eq 7, 3) := by decide +kernel
theorem zd89_224 : decode zxm89.2.1 224 = .ok (.iconst 1, 1) := by decide +kernel
theorem zd89_225 : decode zxm89.2.1 225 = .ok (.goto 4, 3) := by decide +kernel
theorem zd89_228 : decode zxm89.2.1 228 = .ok (.iconst 0, 1) := by decide +kernel
theorem zd89_229 : decode zxm89.2.1 229 = .ok (.ireturn, 1) := by decide +kernel
theorem zt_View_sees {x1 : Int} {f1 : Int} {f2 : Int} {f3 : Int} {f4 : Int} {f5 : Int} {f6 : Int} {f7 : Int} {f9 : Int} {f10 : Int} {f11 : Int} {f12 : Int} {f13 : Int} {f14 : Int} {g0 : (Int → Int)} {g1 : (Int → Int)} {g2 : (Int → Int)} {g3 : (Int → Int)} {g4 : (Int → Int)} {g5 : (Int → Int)} {g6 : (Int → Int)} {g7 : (Int → Int)} {g8 : (Int → Int)} {g9 : (Int → Int)} {o : Int × Int × Int × Int × (Int → Int) × (Int → Int)} (h : zf_View_sees x1 f1 f2 f3 f4 f5 f6 f7 f9 f10 f11 f12 f13 f14 g0 g1 g2 g3 g4 g5 g6 g7 g8 g9 = some o) : zv_Fn z_TB z_cl z_KX zy_View_sees zxm89 (3, 180) [.inr 0, .inl x1] [.inr 1, .inl f1, .inl f2, .inl f3, .inl f4, .inl f5, .inl f6, .inl f7, .inr 4, .inl f9, .inl f10, .inl f11, .inl f12, .inl f13, .inl f14] [g0, g1, g2, g3, g4, g5, g6, g7, g8, g9] (some o.1) [.inr 1, .inl f1, .inl f2, .inl f3, .inl f4, .inl f5, .inl f6, .inl f7, .inr 4, .inl f9, .inl o.2.1, .inl o.2.2.1, .inl f12, .inl o.2.2.2.1, .inl f14] [g0, g1, o.2.2.2.2.1, g3, g4, g5, g6, g7, o.2.2.2.2.2, g9] := zv_meth (K := (z_KF11, z_KC11, z_KL11, z_KT11, [], [], [], none)) (FT := z_FT) (MT := z_MT) (n := 2) zxp89 (z_ks11 _ (fun _ h => List.mem_cons_of_mem _ h) _ _ _ _ (fun j r h _ => by cases h)) (fun _ _ => zs_KX_p) zyw_View_sees (fun va F G h => by obtain ⟨rfl, _⟩ := h; rfl) (fun va F G h => by obtain ⟨rfl, _⟩ := h; rfl) rfl fun good va F G hB hret hvret hP => by
  obtain ⟨rfl, rfl, rfl⟩ := hP
  unfold zf_View_sees at h
  refine zv_ald hB zd89_0 rfl rfl rfl ?_
  refine zv_getq hB zd89_1 rfl rfl rfl ?_
  refine zv_ild hB zd89_4 rfl rfl ?_
  obtain ⟨r1, hr1, h⟩ := zi_bind h
  refine zv_cv hB (zv_emq (va2 := [.inr 1, .inl x1]) (F := [.inr 1, .inl f1, .inl f2, .inl f3, .inl f4, .inl f5, .inl f6, .inl f7, .inr 4, .inl f9, .inl f10, .inl f11, .inl f12, .inl f13, .inl f14]) (F' := [.inr 1, .inl f1, .inl f2, .inl f3, .inl f4, .inl f5, .inl f6, .inl f7, .inr 4, .inl f9, .inl f10, .inl f11, .inl f12, .inl f13, .inl f14]) (G := [g0, g1, g2, g3, g4, g5, g6, g7, g8, g9]) (G' := [g0, g1, g2, g3, g4, g5, g6, g7, g8, g9]) (ρ := [1]) (φ := [1]) (ψ := []) [none, some 0, none, none, none, none, none, none, none, none, none, none, none, none, none] [none, none, none, none, none, none, none, none, none, none] zyw_Sky_hasStar zyw_View_sees zye_View_sees (by decide +kernel) (zt_Sky_hasStar hr1) ⟨⟨_, rfl, fun _ => rfl⟩, trivial⟩ trivial rfl rfl rfl rfl rfl rfl rfl) zd89_5 zxt18 rfl (by decide) (by decide) rfl ?_
  refine zv_zne hB zd89_8 rfl (fun hc2 => ?_) (fun hc2 => ?_)
  · rw [if_neg hc2] at h
    refine zv_ald hB zd89_13 rfl rfl rfl ?_
    refine zv_getq hB zd89_14 rfl rfl rfl ?_
    refine zv_ild hB zd89_17 rfl rfl ?_
    obtain ⟨r3, hr3, h⟩ := zi_bind h
    refine zv_cv hB (zv_emq (va2 := [.inr 1, .inl x1]) (F := [.inr 1, .inl f1, .inl f2, .inl f3, .inl f4, .inl f5, .inl f6, .inl f7, .inr 4, .inl f9, .inl f10, .inl f11, .inl f12, .inl f13, .inl f14]) (F' := [.inr 1, .inl f1, .inl f2, .inl f3, .inl f4, .inl f5, .inl f6, .inl f7, .inr 4, .inl f9, .inl f10, .inl f11, .inl f12, .inl f13, .inl f14]) (G := [g0, g1, g2, g3, g4, g5, g6, g7, g8, g9]) (G' := [g0, g1, g2, g3, g4, g5, g6, g7, g8, g9]) (ρ := [1, 2]) (φ := [2]) (ψ := [0]) [none, none, some 0, none, none, none, none, none, none, none, none, none, none, none, none] [some 0, none, none, none, none, none, none, none, none, none] zyw_Sky_standing zyw_View_sees zye_View_sees (by decide +kernel) (zt_Sky_standing hr3) ⟨⟨_, rfl, fun _ => rfl⟩, trivial⟩ ⟨rfl, trivial⟩ rfl rfl rfl rfl rfl rfl rfl) zd89_18 zxt82 rfl (by decide) (by decide) rfl ?_
    refine zv_ist hB zd89_21 rfl rfl rfl ?_
    refine zv_ild hB zd89_22 rfl rfl ?_
    refine zv_ald hB zd89_23 rfl rfl rfl ?_
    refine zv_getf hB zd89_24 rfl rfl (fun _ _ => ?_)
    obtain ⟨r4, hr4, h⟩ := zi_bind h
    refine zv_cs hB (zv_emq (va2 := [.inl r3, .inl f3]) (F := [.inr 1, .inl f1, .inl f2, .inl f3, .inl f4, .inl f5, .inl f6, .inl f7, .inr 4, .inl f9, .inl f10, .inl f11, .inl f12, .inl f13, .inl f14]) (F' := [.inr 1, .inl f1, .inl f2, .inl f3, .inl f4, .inl f5, .inl f6, .inl f7, .inr 4, .inl f9, .inl f10, .inl f11, .inl f12, .inl f13, .inl f14]) (G := [g0, g1, g2, g3, g4, g5, g6, g7, g8, g9]) (G' := [g0, g1, g2, g3, g4, g5, g6, g7, g8, g9]) (ρ := []) (φ := []) (ψ := []) [none, none, none, none, none, none, none, none, none, none, none, none, none, none, none] [none, none, none, none, none, none, none, none, none, none] zyw_X_columnsBetween zyw_View_sees zye_View_sees (by decide +kernel) (zt_X_columnsBetween hr4) trivial trivial rfl rfl rfl rfl rfl rfl rfl) zd89_27 zxt90 rfl (by decide) (by decide) rfl ?_
    refine zv_ist hB zd89_30 rfl rfl rfl ?_
    refine zv_ald hB zd89_31 rfl rfl rfl ?_
    refine zv_getq hB zd89_32 rfl rfl rfl ?_
    refine zv_getr hB zd89_35 rfl ?_
    refine zv_ild hB zd89_38 rfl rfl ?_
    obtain ⟨c5, h⟩ := zi_if h
    refine zv_iald hB zd89_39 rfl rfl (zi_ix_ok c5).1 (zi_ix_ok c5).2 (fun _ _ => ?_)
    refine zv_ald hB zd89_40 rfl rfl rfl ?_
    refine zv_getf hB zd89_41 rfl rfl (fun _ _ => ?_)
    refine zv_subw hB zd89_44 ?_
    obtain ⟨r6, hr6, h⟩ := zi_bind h
    refine zv_cs hB (zv_emq (va2 := [.inl (zi_w ((g1 x1) - f4))]) (F := [.inr 1, .inl f1, .inl f2, .inl f3, .inl f4, .inl f5, .inl f6, .inl f7, .inr 4, .inl f9, .inl f10, .inl f11, .inl f12, .inl f13, .inl f14]) (F' := [.inr 1, .inl f1, .inl f2, .inl f3, .inl f4, .inl f5, .inl f6, .inl f7, .inr 4, .inl f9, .inl f10, .inl f11, .inl f12, .inl f13, .inl f14]) (G := [g0, g1, g2, g3, g4, g5, g6, g7, g8, g9]) (G' := [g0, g1, g2, g3, g4, g5, g6, g7, g8, g9]) (ρ := []) (φ := []) (ψ := []) [none, none, none, none, none, none, none, none, none, none, none, none, none, none, none] [none, none, none, none, none, none, none, none, none, none] zyw_Math_abs zyw_View_sees zye_View_sees (by decide +kernel) (zt_Math_abs hr6) trivial trivial rfl rfl rfl rfl rfl rfl rfl) zd89_45 zxt91 rfl (by decide) (by decide) rfl ?_
    refine zv_ist hB zd89_48 rfl rfl rfl ?_
    refine zv_ild hB zd89_50 rfl rfl ?_
    refine zv_ald hB zd89_51 rfl rfl rfl ?_
    refine zv_getq hB zd89_52 rfl rfl rfl ?_
    refine zv_getf hB zd89_55 rfl rfl (fun _ _ => ?_)
    refine zv_cgt hB zd89_58 rfl (fun hc7 => ?_) (fun hc7 => ?_)
    · rw [if_pos hc7] at h
      refine zv_con hB zd89_77 rfl ?_
      refine zv_ist hB zd89_78 rfl rfl rfl ?_
      refine zv_ild hB zd89_80 rfl rfl ?_
      refine zv_zeq hB zd89_82 rfl (fun _ => ?_) (fun hc => absurd hc (by decide))
      refine zv_con hB zd89_99 rfl ?_
      have hw := Option.some.inj h
      subst hw
      exact hret _ _ _ _ _ zd89_100 (by constructor <;> decide) ⟨rfl, rfl, rfl⟩
    · rw [if_neg (Int.not_lt.mpr hc7)] at h
      refine zv_ild hB zd89_61 rfl rfl ?_
      refine zv_ald hB zd89_63 rfl rfl rfl ?_
      refine zv_getq hB zd89_64 rfl rfl rfl ?_
      refine zv_getf hB zd89_67 rfl rfl (fun _ _ => ?_)
      refine zv_cgt hB zd89_70 rfl (fun hc9 => ?_) (fun hc9 => ?_)
      · rw [if_pos hc9] at h
        refine zv_con hB zd89_77 rfl ?_
        refine zv_ist hB zd89_78 rfl rfl rfl ?_
        refine zv_ild hB zd89_80 rfl rfl ?_
        refine zv_zeq hB zd89_82 rfl (fun _ => ?_) (fun hc => absurd hc (by decide))
        refine zv_con hB zd89_99 rfl ?_
        have hw := Option.some.inj h
        subst hw
        exact hret _ _ _ _ _ zd89_100 (by constructor <;> decide) ⟨rfl, rfl, rfl⟩
      · rw [if_neg (Int.not_lt.mpr hc9)] at h
        refine zv_con hB zd89_73 rfl ?_
        refine zv_goto hB zd89_74 rfl ?_
        refine zv_ist hB zd89_78 rfl rfl rfl ?_
        refine zv_ild hB zd89_80 rfl rfl ?_
        refine zv_zeq hB zd89_82 rfl (fun hc => absurd hc (by decide)) (fun _ => ?_)
        refine zv_ald hB zd89_85 rfl rfl rfl ?_
        refine zv_getq hB zd89_86 rfl rfl rfl ?_
        refine zv_getf hB zd89_89 rfl rfl (fun _ _ => ?_)
        refine zv_ild hB zd89_92 rfl rfl ?_
        refine zv_shrw hB zd89_93 ?_
        refine zv_con hB zd89_94 rfl ?_
        refine zv_andw hB zd89_95 ?_
        refine zv_zeq hB zd89_96 rfl (fun hc12 => ?_) (fun hc12 => ?_)
        · rw [if_pos hc12] at h
          refine zv_ald hB zd89_101 rfl rfl rfl ?_
          refine zv_getq hB zd89_102 rfl rfl rfl ?_
          refine zv_getf hB zd89_105 rfl rfl (fun _ _ => ?_)
          refine zv_zne hB zd89_108 rfl (fun hc13 => ?_) (fun hc13 => ?_)
          · rw [if_neg hc13] at h
            refine zv_ald hB zd89_113 rfl rfl rfl ?_
            refine zv_getf hB zd89_114 rfl rfl (fun _ _ => ?_)
            refine zv_ild hB zd89_117 rfl rfl ?_
            refine zv_shrw hB zd89_118 ?_
            refine zv_con hB zd89_119 rfl ?_
            refine zv_andw hB zd89_120 ?_
            refine zv_zne hB zd89_121 rfl (fun hc14 => ?_) (fun hc14 => ?_)
            · rw [if_neg hc14] at h
              refine zv_ald hB zd89_213 rfl rfl rfl ?_
              refine zv_getf hB zd89_214 rfl rfl (fun _ _ => ?_)
              refine zv_ild hB zd89_217 rfl rfl ?_
              refine zv_shrw hB zd89_218 ?_
              refine zv_con hB zd89_219 rfl ?_
              refine zv_andw hB zd89_220 ?_
              refine zv_zeq hB zd89_221 rfl (fun hc15 => ?_) (fun hc15 => ?_)
              · rw [if_pos hc15] at h
                refine zv_con hB zd89_228 rfl ?_
                have hw := Option.some.inj h
                subst hw
                exact hret _ _ _ _ _ zd89_229 (by constructor <;> decide) ⟨rfl, rfl, rfl⟩
              · rw [if_neg hc15] at h
                refine zv_con hB zd89_224 rfl ?_
                refine zv_goto hB zd89_225 rfl ?_
                have hw := Option.some.inj h
                subst hw
                exact hret _ _ _ _ _ zd89_229 (by constructor <;> decide) ⟨rfl, rfl, rfl⟩
            · rw [if_pos hc14] at h
              refine zv_ald hB zd89_124 rfl rfl rfl ?_
              refine zv_getq hB zd89_125 rfl rfl rfl ?_
              refine zv_ald hB zd89_128 rfl rfl rfl ?_
              refine zv_getq hB zd89_129 rfl rfl rfl ?_
              refine zv_ild hB zd89_132 rfl rfl ?_
              obtain ⟨r16, hr16, h⟩ := zi_bind h
              refine zv_cv hB (zv_emq (va2 := [.inr 4, .inr 1, .inl x1]) (F := [.inr 1, .inl f1, .inl f2, .inl f3, .inl f4, .inl f5, .inl f6, .inl f7, .inr 4, .inl f9, .inl f10, .inl f11, .inl f12, .inl f13, .inl f14]) (F' := [.inr 1, .inl f1, .inl f2, .inl f3, .inl f4, .inl f5, .inl f6, .inl f7, .inr 4, .inl f9, .inl f10, .inl f11, .inl f12, .inl f13, .inl f14]) (G := [g0, g1, g2, g3, g4, g5, g6, g7, g8, g9]) (G' := [g0, g1, r16, g3, g4, g5, g6, g7, g8, g9]) (ρ := [4, 1, 5, 6, 3, 2]) (φ := [2]) (ψ := [2, 3, 1, 0]) [none, none, some 0, none, none, none, none, none, none, none, none, none, none, none, none] [some 3, some 2, some 0, some 1, none, none, none, none, none, none] zyw_Law_setStar zyw_View_sees zye_View_sees (by decide +kernel) (zt_Law_setStar hr16) ⟨⟨_, rfl, fun _ => rfl⟩, trivial⟩ ⟨rfl, rfl, rfl, rfl, trivial⟩ rfl rfl rfl rfl rfl rfl rfl) zd89_133 zxt92 rfl (by decide) (by decide) rfl ?_
              refine zv_ald hB zd89_136 rfl rfl rfl ?_
              refine zv_getq hB zd89_137 rfl rfl rfl ?_
              refine zv_getr hB zd89_140 rfl ?_
              refine zv_con hB zd89_143 rfl ?_
              refine zv_ild hB zd89_145 rfl rfl ?_
              refine zv_ild hB zd89_146 rfl rfl ?_
              refine zv_addw hB zd89_148 ?_
              refine zv_iast hB zd89_149 rfl rfl (by decide) (by decide) ?_
              refine zv_ald hB zd89_150 rfl rfl rfl ?_
              refine zv_getq hB zd89_151 rfl rfl rfl ?_
              refine zv_con hB zd89_154 rfl ?_
              obtain ⟨r17, hr17, h⟩ := zi_bind h
              refine zv_cv hB (zv_emq (va2 := [.inr 4, .inl 118]) (F := [.inr 1, .inl f1, .inl f2, .inl f3, .inl f4, .inl f5, .inl f6, .inl f7, .inr 4, .inl f9, .inl f10, .inl f11, .inl f12, .inl f13, .inl f14]) (F' := [.inr 1, .inl f1, .inl f2, .inl f3, .inl f4, .inl f5, .inl f6, .inl f7, .inr 4, .inl f9, .inl f10, .inl f11, .inl f12, .inl r17.2.1, .inl f14]) (G := [g0, g1, (zv_up r16 12 (zi_w (r4 + r6))), g3, g4, g5, g6, g7, g8, g9]) (G' := [g0, g1, (zv_up r16 12 (zi_w (r4 + r6))), g3, g4, g5, g6, g7, r17.2.2, g9]) (ρ := [4, 7, 8, 9, 10, 11, 12, 5]) (φ := [12, 13]) (ψ := [4, 5, 6, 7, 8, 9, 2]) [none, none, none, none, none, none, none, none, none, none, none, none, some 0, some 1, none] [none, none, some 6, none, some 0, some 1, some 2, some 3, some 4, some 5] zyw_Law_anyHolds zyw_View_sees zye_View_sees (by decide +kernel) (zt_Law_anyHolds hr17) ⟨⟨_, rfl, fun _ => rfl⟩, ⟨_, rfl, fun _ => rfl⟩, trivial⟩ ⟨rfl, rfl, rfl, rfl, rfl, rfl, rfl, trivial⟩ rfl rfl rfl rfl rfl rfl rfl) zd89_156 zxt93 rfl (by decide) (by decide) rfl ?_
              refine zv_zeq hB zd89_159 rfl (fun hc18 => ?_) (fun hc18 => ?_)
              · rw [if_pos hc18] at h
                refine zv_ald hB zd89_177 rfl rfl rfl ?_
                refine zv_dup hB zd89_178 rfl ?_
                refine zv_getf hB zd89_179 rfl rfl (fun _ _ => ?_)
                refine zv_con hB zd89_182 rfl ?_
                refine zv_ild hB zd89_183 rfl rfl ?_
                refine zv_shlw hB zd89_184 ?_
                refine zv_con hB zd89_185 rfl ?_
                refine zv_xorw hB zd89_186 ?_
                refine zv_andw hB zd89_187 ?_
                refine zv_putf hB zd89_188 rfl rfl (fun h => by cases h) rfl ?_
                refine zv_ald hB zd89_191 rfl rfl rfl ?_
                refine zv_getq hB zd89_192 rfl rfl rfl ?_
                refine zv_getf hB zd89_195 rfl rfl (fun _ _ => ?_)
                refine zv_zne hB zd89_198 rfl (fun hc19 => ?_) (fun hc19 => ?_)
                · rw [if_neg hc19] at h
                  refine zv_ald hB zd89_213 rfl rfl rfl ?_
                  refine zv_getf hB zd89_214 rfl rfl (fun _ _ => ?_)
                  refine zv_ild hB zd89_217 rfl rfl ?_
                  refine zv_shrw hB zd89_218 ?_
                  refine zv_con hB zd89_219 rfl ?_
                  refine zv_andw hB zd89_220 ?_
                  refine zv_zeq hB zd89_221 rfl (fun hc20 => ?_) (fun hc20 => ?_)
                  · rw [if_pos hc20] at h
                    refine zv_con hB zd89_228 rfl ?_
                    have hw := Option.some.inj h
                    subst hw
                    exact hret _ _ _ _ _ zd89_229 (by constructor <;> decide) ⟨rfl, rfl, rfl⟩
                  · rw [if_neg hc20] at h
                    refine zv_con hB zd89_224 rfl ?_
                    refine zv_goto hB zd89_225 rfl ?_
                    have hw := Option.some.inj h
                    subst hw
                    exact hret _ _ _ _ _ zd89_229 (by constructor <;> decide) ⟨rfl, rfl, rfl⟩
                · rw [if_pos hc19] at h
                  refine zv_ald hB zd89_201 rfl rfl rfl ?_
                  refine zv_dup hB zd89_202 rfl ?_
                  refine zv_getf hB zd89_203 rfl rfl (fun _ _ => ?_)
                  refine zv_con hB zd89_206 rfl ?_
                  refine zv_ild hB zd89_207 rfl rfl ?_
                  refine zv_shlw hB zd89_208 ?_
                  refine zv_orw hB zd89_209 ?_
                  refine zv_putf hB zd89_210 rfl rfl (fun h => by cases h) rfl ?_
                  refine zv_ald hB zd89_213 rfl rfl rfl ?_
                  refine zv_getf hB zd89_214 rfl rfl (fun _ _ => ?_)
                  refine zv_ild hB zd89_217 rfl rfl ?_
                  refine zv_shrw hB zd89_218 ?_
                  refine zv_con hB zd89_219 rfl ?_
                  refine zv_andw hB zd89_220 ?_
                  refine zv_zeq hB zd89_221 rfl (fun hc21 => ?_) (fun hc21 => ?_)
                  · rw [if_pos hc21] at h
                    refine zv_con hB zd89_228 rfl ?_
                    have hw := Option.some.inj h
                    subst hw
                    exact hret _ _ _ _ _ zd89_229 (by constructor <;> decide) ⟨rfl, rfl, rfl⟩
                  · rw [if_neg hc21] at h
                    refine zv_con hB zd89_224 rfl ?_
                    refine zv_goto hB zd89_225 rfl ?_
                    have hw := Option.some.inj h
                    subst hw
                    exact hret _ _ _ _ _ zd89_229 (by constructor <;> decide) ⟨rfl, rfl, rfl⟩
              · rw [if_neg hc18] at h
                refine zv_ald hB zd89_162 rfl rfl rfl ?_
                refine zv_dup hB zd89_163 rfl ?_
                refine zv_getf hB zd89_164 rfl rfl (fun _ _ => ?_)
                refine zv_con hB zd89_167 rfl ?_
                refine zv_ild hB zd89_168 rfl rfl ?_
                refine zv_shlw hB zd89_169 ?_
                refine zv_orw hB zd89_170 ?_
                refine zv_putf hB zd89_171 rfl rfl (fun h => by cases h) rfl ?_
                refine zv_goto hB zd89_174 rfl ?_
                refine zv_ald hB zd89_191 rfl rfl rfl ?_
                refine zv_getq hB zd89_192 rfl rfl rfl ?_
                refine zv_getf hB zd89_195 rfl rfl (fun _ _ => ?_)
                refine zv_zne hB zd89_198 rfl (fun hc22 => ?_) (fun hc22 => ?_)
                · rw [if_neg hc22] at h
                  refine zv_ald hB zd89_213 rfl rfl rfl ?_
                  refine zv_getf hB zd89_214 rfl rfl (fun _ _ => ?_)
                  refine zv_ild hB zd89_217 rfl rfl ?_
                  refine zv_shrw hB zd89_218 ?_
                  refine zv_con hB zd89_219 rfl ?_
                  refine zv_andw hB zd89_220 ?_
                  refine zv_zeq hB zd89_221 rfl (fun hc23 => ?_) (fun hc23 => ?_)
                  · rw [if_pos hc23] at h
                    refine zv_con hB zd89_228 rfl ?_
                    have hw := Option.some.inj h
                    subst hw
                    exact hret _ _ _ _ _ zd89_229 (by constructor <;> decide) ⟨rfl, rfl, rfl⟩
                  · rw [if_neg hc23] at h
                    refine zv_con hB zd89_224 rfl ?_
                    refine zv_goto hB zd89_225 rfl ?_
                    have hw := Option.some.inj h
                    subst hw
                    exact hret _ _ _ _ _ zd89_229 (by constructor <;> decide) ⟨rfl, rfl, rfl⟩
                · rw [if_pos hc22] at h
                  refine zv_ald hB zd89_201 rfl rfl rfl ?_
                  refine zv_dup hB zd89_202 rfl ?_
                  refine zv_getf hB zd89_203 rfl rfl (fun _ _ => ?_)
                  refine zv_con hB zd89_206 rfl ?_
                  refine zv_ild hB zd89_207 rfl rfl ?_
                  refine zv_shlw hB zd89_208 ?_
                  refine zv_orw hB zd89_209 ?_
                  refine zv_putf hB zd89_210 rfl rfl (fun h => by cases h) rfl ?_
                  refine zv_ald hB zd89_213 rfl rfl rfl ?_
                  refine zv_getf hB zd89_214 rfl rfl (fun _ _ => ?_)
                  refine zv_ild hB zd89_217 rfl rfl ?_
                  refine zv_shrw hB zd89_218 ?_
                  refine zv_con hB zd89_219 rfl ?_
                  refine zv_andw hB zd89_220 ?_
                  refine zv_zeq hB zd89_221 rfl (fun hc24 => ?_) (fun hc24 => ?_)
                  · rw [if_pos hc24] at h
                    refine zv_con hB zd89_228 rfl ?_
                    have hw := Option.some.inj h
                    subst hw
                    exact hret _ _ _ _ _ zd89_229 (by constructor <;> decide) ⟨rfl, rfl, rfl⟩
                  · rw [if_neg hc24] at h
                    refine zv_con hB zd89_224 rfl ?_
                    refine zv_goto hB zd89_225 rfl ?_
                    have hw := Option.some.inj h
                    subst hw
                    exact hret _ _ _ _ _ zd89_229 (by constructor <;> decide) ⟨rfl, rfl, rfl⟩
          · rw [if_pos hc13] at h
            refine zv_con hB zd89_111 rfl ?_
            have hw := Option.some.inj h
            subst hw
            exact hret _ _ _ _ _ zd89_112 (by constructor <;> decide) ⟨rfl, rfl, rfl⟩
        · rw [if_neg hc12] at h
          refine zv_con hB zd89_99 rfl ?_
          have hw := Option.some.inj h
          subst hw
          exact hret _ _ _ _ _ zd89_100 (by constructor <;> decide) ⟨rfl, rfl, rfl⟩
  · rw [if_pos hc2] at h
    refine zv_con hB zd89_11 rfl ?_
    have hw := Option.some.inj h
    subst hw
    exact hret _ _ _ _ _ zd89_12 (by constructor <;> decide) ⟨rfl, rfl, rfl⟩
/-! View_look (II)V -/
-- names: 0 View('arg', 0), 1 Law(0, 7, 1), 2 (0, 13)(1, 4, 12), 3 Sky(0, 7, 0), 4 (0, 24)(3, 1, 1), 5 (0, 24)(3, 1, 2), 6 (0, 24)(3, 1, 3), 7 (0, 14)(1, 4, 3), 8 (0, 14)(1, 4, 5), 9 (0, 14)(1, 4, 6), 10 (0, 200)(1, 4, 0), 11 (0, 40)(1, 4, 13), 12 (0, 200)(1, 4, 1)
-- fields: f0 = 0.law_, f1 = 0.sky_, f2 = 0.x_, f3 = 0.y_, f4 = 3.hour_, f5 = 3.night_, f6 = 0.shown_, f7 = 3.told_, f8 = 3.sightColumns_, f9 = 3.sightRows_, f10 = 3.clouds_, f11 = 1.tellsSeen_, f12 = 0.starsAsked_, f13 = 0.starsHold_, f14 = 1.clauses_, f15 = 1.answer_, f16 = 1.seenByPlace_; arrays: g0 = 2, g1 = 4, g2 = 5, g3 = 6, g4 = 7, g5 = 8, g6 = 9, g7 = 10, g8 = 11, g9 = 12; out: [('f', 2), ('f', 3), ('f', 6), ('f', 12), ('f', 13), ('f', 15), ('g', 0), ('g', 8)]
abbrev zy_View_look : zNL := (13, [(0, 7), (1, 4), (3, 1)], [(0, 7, 1, 0), (0, 7, 0, 1), (0, 7, 2, 2), (0, 7, 3, 3), (3, 1, 6, 4), (3, 1, 7, 5), (0, 7, 4, 6), (3, 1, 0, 7), (3, 1, 9, 8), (3, 1, 10, 9), (3, 1, 8, 10), (1, 4, 8, 11), (0, 7, 6, 12), (0, 7, 7, 13), (1, 4, 7, 14), (1, 4, 14, 15), (1, 4, 10, 16)], [(1, 4, 12, 2), (3, 1, 1, 4), (3, 1, 2, 5), (3, 1, 3, 6), (1, 4, 3, 7), (1, 4, 5, 8), (1, 4, 6, 9), (1, 4, 0, 10), (1, 4, 13, 11), (1, 4, 1, 12)], [(2, 0, 13, 0), (4, 0, 24, 1), (5, 0, 24, 2), (6, 0, 24, 3), (7, 0, 14, 4), (8, 0, 14, 5), (9, 0, 14, 6), (10, 0, 200, 7), (11, 0, 40, 8), (12, 0, 200, 9)])
theorem zyw_View_look : zv_wf zy_View_look = true := by decide +kernel
theorem zye_View_look : zv_ek2 zy_View_look = true := by decide +kernel
def zf_View_look_l0_b (f2 : Int) (f3 : Int) (f4 : Int) (f7 : Int) (f8 : Int) (f9 : Int) (f10 : Int) (f11 : Int) (f14 : Int) (f16 : Int) (g1 : (Int → Int)) (g2 : (Int → Int)) (g3 : (Int → Int)) (g4 : (Int → Int)) (g5 : (Int → Int)) (g6 : (Int → Int)) (g7 : (Int → Int)) (g9 : (Int → Int)) (rec : Int → Int → Int → Int → Int → (Int → Int) → (Int → Int) → Option (Int × Int × Int × Int × (Int → Int) × (Int → Int))) (x3 : Int) (f6 : Int) (f12 : Int) (f13 : Int) (f15 : Int) (g0 : (Int → Int)) (g8 : (Int → Int)) : Option (Int × Int × Int × Int × (Int → Int) × (Int → Int)) := if x3 < 24 then ((zf_View_sees x3 f7 f4 f2 f3 f8 f9 f10 f11 f12 f13 f14 f15 f16 g1 g2 g0 g3 g4 g5 g6 g7 g8 g9).bind fun r3 => (if r3.1 = 0 then (rec (zi_w (x3 + 1)) f6 r3.2.1 r3.2.2.1 r3.2.2.2.1 r3.2.2.2.2.1 r3.2.2.2.2.2) else (rec (zi_w (x3 + 1)) (zi_or f6 (zi_shl 1 x3)) r3.2.1 r3.2.2.1 r3.2.2.2.1 r3.2.2.2.2.1 r3.2.2.2.2.2))) else (some (f6, f12, f13, f15, g0, g8))
def zf_View_look_l0 (f2 : Int) (f3 : Int) (f4 : Int) (f7 : Int) (f8 : Int) (f9 : Int) (f10 : Int) (f11 : Int) (f14 : Int) (f16 : Int) (g1 : (Int → Int)) (g2 : (Int → Int)) (g3 : (Int → Int)) (g4 : (Int → Int)) (g5 : (Int → Int)) (g6 : (Int → Int)) (g7 : (Int → Int)) (g9 : (Int → Int)) : Nat → Int → Int → Int → Int → Int → (Int → Int) → (Int → Int) → Option (Int × Int × Int × Int × (Int → Int) × (Int → Int))
  | 0, _, _, _, _, _, _, _ => none
  | n + 1, x3, f6, f12, f13, f15, g0, g8 => zf_View_look_l0_b f2 f3 f4 f7 f8 f9 f10 f11 f14 f16 g1 g2 g3 g4 g5 g6 g7 g9 (zf_View_look_l0 f2 f3 f4 f7 f8 f9 f10 f11 f14 f16 g1 g2 g3 g4 g5 g6 g7 g9 n) x3 f6 f12 f13 f15 g0 g8
def zf_View_look (x1 : Int) (x2 : Int) (f2 : Int) (f3 : Int) (f4 : Int) (f5 : Int) (f6 : Int) (f7 : Int) (f8 : Int) (f9 : Int) (f10 : Int) (f11 : Int) (f12 : Int) (f13 : Int) (f14 : Int) (f15 : Int) (f16 : Int) (g0 : (Int → Int)) (g1 : (Int → Int)) (g2 : (Int → Int)) (g3 : (Int → Int)) (g4 : (Int → Int)) (g5 : (Int → Int)) (g6 : (Int → Int)) (g7 : (Int → Int)) (g8 : (Int → Int)) (g9 : (Int → Int)) : Option (Int × Int × Int × Int × Int × Int × (Int → Int) × (Int → Int)) := (zf_View_goTo x1 x2 f2 f3 f4 f5 g0).bind fun r1 => ((zf_View_look_l0 r1.1 r1.2.1 f4 f7 f8 f9 f10 f11 f14 f16 g1 g2 g3 g4 g5 g6 g7 g9 zi_fu 0 0 f12 f13 f15 r1.2.2 g8).bind fun q5 => (some (r1.1, r1.2.1, q5.1, q5.2.1, q5.2.2.1, q5.2.2.2.1, q5.2.2.2.2.1, q5.2.2.2.2.2)))
theorem zd85_0 : decode zxm85.2.1 0 = .ok (.aload_n 0, 1) := by decide +kernel
theorem zd85_1 : decode zxm85.2.1 1 = .ok (.iload_n 1, 1) := by decide +kernel
theorem zd85_2 : decode zxm85.2.1 2 = .ok (.iload_n 2, 1) := by decide +kernel
theorem zd85_3 : decode zxm85.2.1 3 = .ok (.invokevirtual 63, 3) := by decide +kernel
theorem zd85_6 : decode zxm85.2.1 6 = .ok (.aload_n 0, 1) := by decide +kernel
theorem zd85_7 : decode zxm85.2.1 7 = .ok (.iconst 0, 1) := by decide +kernel
theorem zd85_8 : decode zxm85.2.1 8 = .ok (.putfield 18, 3) := by decide +kernel
theorem zd85_11 : decode zxm85.2.1 11 = .ok (.iconst 0, 1) := by decide +kernel
theorem zd85_12 : decode zxm85.2.1 12 = .ok (.istore_n 3, 1) := by decide +kernel
theorem zd85_13 : decode zxm85.2.1 13 = .ok (.iload_n 3, 1) := by decide +kernel
theorem zd85_14 : decode zxm85.2.1 14 = .ok (.bipush 24, 2) := by decide +kernel
theorem zd85_16 : decode zxm85.2.1 16 = .ok (.if_icmp .ge 29, 3) := by decide +kernel
theorem zd85_19 : decode zxm85.2.1 19 = .ok (.aload_n 0, 1) := by decide +kernel
theorem zd85_20 : decode zxm85.2.1 20 = .ok (.iload_n 3, 1) := by decide +kernel
theorem zd85_21 : decode zxm85.2.1 21 = .ok (.invokevirtual 67, 3) := by decide +kernel
theorem zd85_24 : decode zxm85.2.1 24 = .ok (.ifCond .eq 15, 3) := by decide +kernel
theorem zd85_27 : decode zxm85.2.1 27 = .ok (.aload_n 0, 1) := by decide +kernel
theorem zd85_28 : decode zxm85.2.1 28 = .ok (.dup, 1) := by decide +kernel
theorem zd85_29 : decode zxm85.2.1 29 = .ok (.getfield 18, 3) := by decide +kernel
theorem zd85_32 : decode zxm85.2.1 32 = .ok (.iconst 1, 1) := by decide +kernel
theorem zd85_33 : decode zxm85.2.1 33 = .ok (.iload_n 3, 1) := by decide +kernel
theorem zd85_34 : decode zxm85.2.1 34 = .ok (.ishl, 1) := by decide +kernel
theorem zd85_35 : decode zxm85.2.1 35 = .ok (.ior, 1) := by decide +kernel
theorem zd85_36 : decode zxm85.2.1 36 = .ok (.putfield 18, 3) := by decide +kernel
theorem zd85_39 : decode zxm85.2.1 39 = .ok (.iinc 3 1, 3) := by decide +kernel
theorem zd85_42 : decode zxm85.2.1 42 = .ok (.goto (-29), 3) := by decide +kernel
theorem zd85_45 : decode zxm85.2.1 45 = .ok (.return_, 1) := by decide +kernel
theorem zt_View_look {x1 : Int} {x2 : Int} {f2 : Int} {f3 : Int} {f4 : Int} {f5 : Int} {f6 : Int} {f7 : Int} {f8 : Int} {f9 : Int} {f10 : Int} {f11 : Int} {f12 : Int} {f13 : Int} {f14 : Int} {f15 : Int} {f16 : Int} {g0 : (Int → Int)} {g1 : (Int → Int)} {g2 : (Int → Int)} {g3 : (Int → Int)} {g4 : (Int → Int)} {g5 : (Int → Int)} {g6 : (Int → Int)} {g7 : (Int → Int)} {g8 : (Int → Int)} {g9 : (Int → Int)} {o : Int × Int × Int × Int × Int × Int × (Int → Int) × (Int → Int)} (h : zf_View_look x1 x2 f2 f3 f4 f5 f6 f7 f8 f9 f10 f11 f12 f13 f14 f15 f16 g0 g1 g2 g3 g4 g5 g6 g7 g8 g9 = some o) : zv_Fn z_TB z_cl z_KX zy_View_look zxm85 (4, 240) [.inr 0, .inl x1, .inl x2] [.inr 1, .inr 3, .inl f2, .inl f3, .inl f4, .inl f5, .inl f6, .inl f7, .inl f8, .inl f9, .inl f10, .inl f11, .inl f12, .inl f13, .inl f14, .inl f15, .inl f16] [g0, g1, g2, g3, g4, g5, g6, g7, g8, g9] none [.inr 1, .inr 3, .inl o.1, .inl o.2.1, .inl f4, .inl f5, .inl o.2.2.1, .inl f7, .inl f8, .inl f9, .inl f10, .inl f11, .inl o.2.2.2.1, .inl o.2.2.2.2.1, .inl f14, .inl o.2.2.2.2.2.1, .inl f16] [o.2.2.2.2.2.2.1, g1, g2, g3, g4, g5, g6, g7, o.2.2.2.2.2.2.2, g9] := zv_meth (K := (z_KF11, z_KC11, z_KL11, z_KT11, [], [], [], none)) (FT := z_FT) (MT := z_MT) (n := 3) zxp85 (z_ks11 _ (fun _ h => List.mem_cons_of_mem _ h) _ _ _ _ (fun j r h _ => by cases h)) (fun _ _ => zs_KX_p) zyw_View_look (fun va F G h => by obtain ⟨rfl, _⟩ := h; rfl) (fun va F G h => by obtain ⟨rfl, _⟩ := h; rfl) rfl fun good va F G hB hret hvret hP => by
  obtain ⟨rfl, rfl, rfl⟩ := hP
  have l0 : ∀ (n : Nat) (x3 : Int) (f2 : Int) (f3 : Int) (f6 : Int) (f12 : Int) (f13 : Int) (f15 : Int) (g0 : (Int → Int)) (g8 : (Int → Int)) (q : Int × Int × Int × Int × (Int → Int) × (Int → Int)), zf_View_look_l0 f2 f3 f4 f7 f8 f9 f10 f11 f14 f16 g1 g2 g3 g4 g5 g6 g7 g9 n x3 f6 f12 f13 f15 g0 g8 = some q → (good 45 [.inr 1000, .inr 1000, .inr 1000, .inr 1000] [] [.inr 1, .inr 3, .inl f2, .inl f3, .inl f4, .inl f5, .inl q.1, .inl f7, .inl f8, .inl f9, .inl f10, .inl f11, .inl q.2.1, .inl q.2.2.1, .inl f14, .inl q.2.2.2.1, .inl f16] [q.2.2.2.2.1, g1, g2, g3, g4, g5, g6, g7, q.2.2.2.2.2, g9]) → good 13 [.inr 0, .inr 1000, .inr 1000, .inl x3] [] [.inr 1, .inr 3, .inl f2, .inl f3, .inl f4, .inl f5, .inl f6, .inl f7, .inl f8, .inl f9, .inl f10, .inl f11, .inl f12, .inl f13, .inl f14, .inl f15, .inl f16] [g0, g1, g2, g3, g4, g5, g6, g7, g8, g9] := by
    intro n
    induction n with
    | zero => intro x3 f2 f3 f6 f12 f13 f15 g0 g8 q h; exact absurd (show none = some q from h) (fun h => by cases h)
    | succ n ih =>
      intro x3 f2 f3 f6 f12 f13 f15 g0 g8 q h hK
      replace h : zf_View_look_l0_b f2 f3 f4 f7 f8 f9 f10 f11 f14 f16 g1 g2 g3 g4 g5 g6 g7 g9 (zf_View_look_l0 f2 f3 f4 f7 f8 f9 f10 f11 f14 f16 g1 g2 g3 g4 g5 g6 g7 g9 n) x3 f6 f12 f13 f15 g0 g8 = some q := h
      unfold zf_View_look_l0_b at h
      refine zv_ild hB zd85_13 rfl rfl ?_
      refine zv_con hB zd85_14 rfl ?_
      refine zv_cge hB zd85_16 rfl (fun hc2 => ?_) (fun hc2 => ?_)
      · rw [if_neg (Int.not_lt.mpr hc2)] at h
        have hq := Option.some.inj h
        subst hq
        refine zv_wk hB (L' := [.inr 1000, .inr 1000, .inr 1000, .inr 1000]) (F' := [.inr 1, .inr 3, .inl f2, .inl f3, .inl f4, .inl f5, .inl f6, .inl f7, .inl f8, .inl f9, .inl f10, .inl f11, .inl f12, .inl f13, .inl f14, .inl f15, .inl f16]) ⟨fun (h : zv_is (.inr 1000)) => (Nat.lt_irrefl 1000 h).elim, fun (h : zv_is (.inr 1000)) => (Nat.lt_irrefl 1000 h).elim, fun (h : zv_is (.inr 1000)) => (Nat.lt_irrefl 1000 h).elim, fun (h : zv_is (.inr 1000)) => (Nat.lt_irrefl 1000 h).elim, trivial⟩ ⟨fun _ => rfl, fun _ => rfl, fun _ => rfl, fun _ => rfl, fun _ => rfl, fun _ => rfl, fun _ => rfl, fun _ => rfl, fun _ => rfl, fun _ => rfl, fun _ => rfl, fun _ => rfl, fun _ => rfl, fun _ => rfl, fun _ => rfl, fun _ => rfl, fun _ => rfl, trivial⟩ ?_
        exact hK
      · rw [if_pos hc2] at h
        refine zv_ald hB zd85_19 rfl rfl rfl ?_
        refine zv_ild hB zd85_20 rfl rfl ?_
        obtain ⟨r3, hr3, h⟩ := zi_bind h
        refine zv_cv hB (zv_emq (va2 := [.inr 0, .inl x3]) (F := [.inr 1, .inr 3, .inl f2, .inl f3, .inl f4, .inl f5, .inl f6, .inl f7, .inl f8, .inl f9, .inl f10, .inl f11, .inl f12, .inl f13, .inl f14, .inl f15, .inl f16]) (F' := [.inr 1, .inr 3, .inl f2, .inl f3, .inl f4, .inl f5, .inl f6, .inl f7, .inl f8, .inl f9, .inl f10, .inl f11, .inl r3.2.1, .inl r3.2.2.1, .inl f14, .inl r3.2.2.2.1, .inl f16]) (G := [g0, g1, g2, g3, g4, g5, g6, g7, g8, g9]) (G' := [r3.2.2.2.2.1, g1, g2, g3, g4, g5, g6, g7, r3.2.2.2.2.2, g9]) (ρ := [0, 3, 4, 5, 1, 2, 6, 7, 8, 9, 10, 11, 12]) (φ := [1, 7, 4, 2, 3, 8, 9, 10, 0, 11, 12, 13, 14, 15, 16]) (ψ := [1, 2, 0, 3, 4, 5, 6, 7, 8, 9]) [some 8, some 0, some 3, some 4, some 2, none, none, some 1, some 5, some 6, some 7, some 9, some 10, some 11, some 12, some 13, some 14] [some 2, some 0, some 1, some 3, some 4, some 5, some 6, some 7, some 8, some 9] zyw_View_sees zyw_View_look zye_View_look (by decide +kernel) (zt_View_sees hr3) ⟨⟨_, rfl, fun _ => rfl⟩, ⟨_, rfl, fun _ => rfl⟩, ⟨_, rfl, fun _ => rfl⟩, ⟨_, rfl, fun _ => rfl⟩, ⟨_, rfl, fun _ => rfl⟩, ⟨_, rfl, fun _ => rfl⟩, ⟨_, rfl, fun _ => rfl⟩, ⟨_, rfl, fun _ => rfl⟩, ⟨_, rfl, fun _ => rfl⟩, ⟨_, rfl, fun _ => rfl⟩, ⟨_, rfl, fun _ => rfl⟩, ⟨_, rfl, fun _ => rfl⟩, ⟨_, rfl, fun _ => rfl⟩, ⟨_, rfl, fun _ => rfl⟩, ⟨_, rfl, fun _ => rfl⟩, trivial⟩ ⟨rfl, rfl, rfl, rfl, rfl, rfl, rfl, rfl, rfl, rfl, trivial⟩ rfl rfl rfl rfl rfl rfl rfl) zd85_21 zxt89 rfl (by decide) (by decide) rfl ?_
        refine zv_zeq hB zd85_24 rfl (fun hc4 => ?_) (fun hc4 => ?_)
        · rw [if_pos hc4] at h
          refine zv_iincw hB zd85_39 rfl rfl ?_
          refine zv_goto hB zd85_42 rfl ?_
          exact ih _ _ _ _ _ _ _ _ _ q h hK
        · rw [if_neg hc4] at h
          refine zv_ald hB zd85_27 rfl rfl rfl ?_
          refine zv_dup hB zd85_28 rfl ?_
          refine zv_getf hB zd85_29 rfl rfl (fun _ _ => ?_)
          refine zv_con hB zd85_32 rfl ?_
          refine zv_ild hB zd85_33 rfl rfl ?_
          refine zv_shlw hB zd85_34 ?_
          refine zv_orw hB zd85_35 ?_
          refine zv_putf hB zd85_36 rfl rfl (fun h => by cases h) rfl ?_
          refine zv_iincw hB zd85_39 rfl rfl ?_
          refine zv_goto hB zd85_42 rfl ?_
          exact ih _ _ _ _ _ _ _ _ _ q h hK
  unfold zf_View_look at h
  refine zv_ald hB zd85_0 rfl rfl rfl ?_
  refine zv_ild hB zd85_1 rfl rfl ?_
  refine zv_ild hB zd85_2 rfl rfl ?_
  obtain ⟨r1, hr1, h⟩ := zi_bind h
  refine zv_cv hB (zv_emq (va2 := [.inr 0, .inl x1, .inl x2]) (F := [.inr 1, .inr 3, .inl f2, .inl f3, .inl f4, .inl f5, .inl f6, .inl f7, .inl f8, .inl f9, .inl f10, .inl f11, .inl f12, .inl f13, .inl f14, .inl f15, .inl f16]) (F' := [.inr 1, .inr 3, .inl r1.1, .inl r1.2.1, .inl f4, .inl f5, .inl f6, .inl f7, .inl f8, .inl f9, .inl f10, .inl f11, .inl f12, .inl f13, .inl f14, .inl f15, .inl f16]) (G := [g0, g1, g2, g3, g4, g5, g6, g7, g8, g9]) (G' := [r1.2.2, g1, g2, g3, g4, g5, g6, g7, g8, g9]) (ρ := [0, 1, 2, 3]) (φ := [2, 3, 0, 1, 4, 5]) (ψ := [0]) [some 2, some 3, some 0, some 1, some 4, some 5, none, none, none, none, none, none, none, none, none, none, none] [some 0, none, none, none, none, none, none, none, none, none] zyw_View_goTo zyw_View_look zye_View_look (by decide +kernel) (zt_View_goTo hr1) ⟨⟨_, rfl, fun _ => rfl⟩, ⟨_, rfl, fun _ => rfl⟩, ⟨_, rfl, fun _ => rfl⟩, ⟨_, rfl, fun _ => rfl⟩, ⟨_, rfl, fun _ => rfl⟩, ⟨_, rfl, fun _ => rfl⟩, trivial⟩ ⟨rfl, trivial⟩ rfl rfl rfl rfl rfl rfl rfl) zd85_3 zxt86 rfl (by decide) (by decide) rfl ?_
  refine zv_ald hB zd85_6 rfl rfl rfl ?_
  refine zv_con hB zd85_7 rfl ?_
  refine zv_putf hB zd85_8 rfl rfl (fun h => by cases h) rfl ?_
  refine zv_con hB zd85_11 rfl ?_
  refine zv_ist hB zd85_12 rfl rfl rfl ?_
  obtain ⟨q5, hq5, h⟩ := zi_bind h
  refine zv_wk hB (L' := [.inr 0, .inr 1000, .inr 1000, .inl 0]) (F' := [.inr 1, .inr 3, .inl r1.1, .inl r1.2.1, .inl f4, .inl f5, .inl 0, .inl f7, .inl f8, .inl f9, .inl f10, .inl f11, .inl f12, .inl f13, .inl f14, .inl f15, .inl f16]) ⟨fun _ => rfl, fun (h : zv_is (.inr 1000)) => (Nat.lt_irrefl 1000 h).elim, fun (h : zv_is (.inr 1000)) => (Nat.lt_irrefl 1000 h).elim, fun _ => rfl, trivial⟩ ⟨fun _ => rfl, fun _ => rfl, fun _ => rfl, fun _ => rfl, fun _ => rfl, fun _ => rfl, fun _ => rfl, fun _ => rfl, fun _ => rfl, fun _ => rfl, fun _ => rfl, fun _ => rfl, fun _ => rfl, fun _ => rfl, fun _ => rfl, fun _ => rfl, fun _ => rfl, trivial⟩ ?_
  refine l0 _ _ _ _ _ _ _ _ _ _ q5 hq5 ?_
  show good 45 [.inr 1000, .inr 1000, .inr 1000, .inr 1000] [] [.inr 1, .inr 3, .inl r1.1, .inl r1.2.1, .inl f4, .inl f5, .inl q5.1, .inl f7, .inl f8, .inl f9, .inl f10, .inl f11, .inl q5.2.1, .inl q5.2.2.1, .inl f14, .inl q5.2.2.2.1, .inl f16] [q5.2.2.2.2.1, g1, g2, g3, g4, g5, g6, g7, q5.2.2.2.2.2, g9]
  have hw := Option.some.inj h
  subst hw
  exact hvret _ _ _ _ zd85_45 trivial ⟨rfl, rfl, rfl⟩
end
section
/-! Methods as functions, and that they do what these do. -/
/-! X_seen (II)I -/
-- names: 0 StarTales('arg', 0), 1 View(0, 0, 12), 2 Sky(0, 0, 0), 3 Law(0, 0, 7), 4 (0, 24)(1, 7, 8), 5 (0, 13)(3, 4, 12), 6 (0, 24)(2, 1, 1), 7 (0, 24)(2, 1, 2), 8 (0, 24)(2, 1, 3), 9 (0, 14)(3, 4, 3), 10 (0, 14)(3, 4, 5), 11 (0, 14)(3, 4, 6), 12 (0, 200)(3, 4, 0), 13 (0, 40)(3, 4, 13), 14 (0, 200)(3, 4, 1)
-- fields: f0 = 0.ruling_, f1 = 1.sky_, f2 = 1.law_, f3 = 1.starsAsked_, f4 = 1.x_, f5 = 1.y_, f6 = 2.hour_, f7 = 2.night_, f8 = 1.shown_, f9 = 2.told_, f10 = 2.sightColumns_, f11 = 2.sightRows_, f12 = 2.clouds_, f13 = 3.tellsSeen_, f14 = 1.starsHold_, f15 = 3.clauses_, f16 = 3.answer_, f17 = 3.seenByPlace_; arrays: g0 = 4, g1 = 5, g2 = 6, g3 = 7, g4 = 8, g5 = 9, g6 = 10, g7 = 11, g8 = 12, g9 = 13, g10 = 14; out: [('ret', None), ('f', 3), ('f', 4), ('f', 5), ('f', 8), ('f', 14), ('f', 16), ('g', 0), ('g', 1), ('g', 9)]
abbrev zy_X_seen : zNL := (15, [(0, 0), (1, 7), (2, 1), (3, 4)], [(0, 0, 7, 0), (1, 7, 0, 1), (1, 7, 1, 2), (1, 7, 6, 3), (1, 7, 2, 4), (1, 7, 3, 5), (2, 1, 6, 6), (2, 1, 7, 7), (1, 7, 4, 8), (2, 1, 0, 9), (2, 1, 9, 10), (2, 1, 10, 11), (2, 1, 8, 12), (3, 4, 8, 13), (1, 7, 7, 14), (3, 4, 7, 15), (3, 4, 14, 16), (3, 4, 10, 17)], [(0, 0, 12, 1), (0, 0, 0, 2), (1, 7, 8, 4), (3, 4, 12, 5), (2, 1, 1, 6), (2, 1, 2, 7), (2, 1, 3, 8), (3, 4, 3, 9), (3, 4, 5, 10), (3, 4, 6, 11), (3, 4, 0, 12), (3, 4, 13, 13), (3, 4, 1, 14)], [(4, 0, 24, 0), (5, 0, 13, 1), (6, 0, 24, 2), (7, 0, 24, 3), (8, 0, 24, 4), (9, 0, 14, 5), (10, 0, 14, 6), (11, 0, 14, 7), (12, 0, 200, 8), (13, 0, 40, 9), (14, 0, 200, 10)])
theorem zyw_X_seen : zv_wf zy_X_seen = true := by decide +kernel
theorem zye_X_seen : zv_ek2 zy_X_seen = true := by decide +kernel
def zf_X_seen (x1 : Int) (x2 : Int) (f3 : Int) (f4 : Int) (f5 : Int) (f6 : Int) (f7 : Int) (f8 : Int) (f9 : Int) (f10 : Int) (f11 : Int) (f12 : Int) (f13 : Int) (f14 : Int) (f15 : Int) (f16 : Int) (f17 : Int) (g0 : (Int → Int)) (g1 : (Int → Int)) (g2 : (Int → Int)) (g3 : (Int → Int)) (g4 : (Int → Int)) (g5 : (Int → Int)) (g6 : (Int → Int)) (g7 : (Int → Int)) (g8 : (Int → Int)) (g9 : (Int → Int)) (g10 : (Int → Int)) : Option (Int × Int × Int × Int × Int × Int × Int × (Int → Int) × (Int → Int) × (Int → Int)) := (zf_X_isPlace x1 x2).bind fun r1 => (if r1 = 0 then (some ((-1), f3, f4, f5, f8, f14, f16, g0, g1, g9)) else ((zf_View_open f3 g0).bind fun r3 => ((zf_View_look x1 x2 f4 f5 f6 f7 f8 f9 f10 f11 f12 f13 r3.1 f14 f15 f16 f17 g1 g2 g3 g4 g5 g6 g7 g8 g9 g10).bind fun r4 => (some (r4.2.2.1, r4.2.2.2.1, r4.1, r4.2.1, r4.2.2.1, r4.2.2.2.2.1, r4.2.2.2.2.2.1, r3.2, r4.2.2.2.2.2.2.1, r4.2.2.2.2.2.2.2)))))
theorem zd83_0 : decode zxm83.2.1 0 = .ok (.iload_n 1, 1) := by decide +kernel
theorem zd83_1 : decode zxm83.2.1 1 = .ok (.iload_n 2, 1) := by decide +kernel
theorem zd83_2 : decode zxm83.2.1 2 = .ok (.invokestatic 130, 3) := by decide +kernel
theorem zd83_5 : decode zxm83.2.1 5 = .ok (.ifCond .ne 5, 3) := by decide +kernel
theorem zd83_8 : decode zxm83.2.1 8 = .ok (.iconst (-1), 1) := by decide +kernel
theorem zd83_9 : decode zxm83.2.1 9 = .ok (.ireturn, 1) := by decide +kernel
theorem zd83_10 : decode zxm83.2.1 10 = .ok (.aload_n 0, 1) := by decide +kernel
theorem zd83_11 : decode zxm83.2.1 11 = .ok (.getfield 81, 3) := by decide +kernel
theorem zd83_14 : decode zxm83.2.1 14 = .ok (.aload_n 0, 1) := by decide +kernel
theorem zd83_15 : decode zxm83.2.1 15 = .ok (.getfield 10, 3) := by decide +kernel
theorem zd83_18 : decode zxm83.2.1 18 = .ok (.aload_n 0, 1) := by decide +kernel
theorem zd83_19 : decode zxm83.2.1 19 = .ok (.getfield 46, 3) := by decide +kernel
theorem zd83_22 : decode zxm83.2.1 22 = .ok (.invokevirtual 211, 3) := by decide +kernel
theorem zd83_25 : decode zxm83.2.1 25 = .ok (.aload_n 0, 1) := by decide +kernel
theorem zd83_26 : decode zxm83.2.1 26 = .ok (.getfield 81, 3) := by decide +kernel
theorem zd83_29 : decode zxm83.2.1 29 = .ok (.iload_n 1, 1) := by decide +kernel
theorem zd83_30 : decode zxm83.2.1 30 = .ok (.iload_n 2, 1) := by decide +kernel
theorem zd83_31 : decode zxm83.2.1 31 = .ok (.invokevirtual 214, 3) := by decide +kernel
theorem zd83_34 : decode zxm83.2.1 34 = .ok (.aload_n 0, 1) := by decide +kernel
theorem zd83_35 : decode zxm83.2.1 35 = .ok (.getfield 81, 3) := by decide +kernel
theorem zd83_38 : decode zxm83.2.1 38 = .ok (.getfield 218, 3) := by decide +kernel
theorem zd83_41 : decode zxm83.2.1 41 = .ok (.ireturn, 1) := by decide +kernel
theorem zt_X_seen {x1 : Int} {x2 : Int} {f3 : Int} {f4 : Int} {f5 : Int} {f6 : Int} {f7 : Int} {f8 : Int} {f9 : Int} {f10 : Int} {f11 : Int} {f12 : Int} {f13 : Int} {f14 : Int} {f15 : Int} {f16 : Int} {f17 : Int} {g0 : (Int → Int)} {g1 : (Int → Int)} {g2 : (Int → Int)} {g3 : (Int → Int)} {g4 : (Int → Int)} {g5 : (Int → Int)} {g6 : (Int → Int)} {g7 : (Int → Int)} {g8 : (Int → Int)} {g9 : (Int → Int)} {g10 : (Int → Int)} {o : Int × Int × Int × Int × Int × Int × Int × (Int → Int) × (Int → Int) × (Int → Int)} (h : zf_X_seen x1 x2 f3 f4 f5 f6 f7 f8 f9 f10 f11 f12 f13 f14 f15 f16 f17 g0 g1 g2 g3 g4 g5 g6 g7 g8 g9 g10 = some o) : zv_Fn z_TB z_cl z_KX zy_X_seen zxm83 (5, 300) [.inr 0, .inl x1, .inl x2] [.inr 3, .inr 1000, .inr 1000, .inl f3, .inl f4, .inl f5, .inl f6, .inl f7, .inl f8, .inl f9, .inl f10, .inl f11, .inl f12, .inl f13, .inl f14, .inl f15, .inl f16, .inl f17] [g0, g1, g2, g3, g4, g5, g6, g7, g8, g9, g10] (some o.1) [.inr 3, .inr 1000, .inr 1000, .inl o.2.1, .inl o.2.2.1, .inl o.2.2.2.1, .inl f6, .inl f7, .inl o.2.2.2.2.1, .inl f9, .inl f10, .inl f11, .inl f12, .inl f13, .inl o.2.2.2.2.2.1, .inl f15, .inl o.2.2.2.2.2.2.1, .inl f17] [o.2.2.2.2.2.2.2.1, o.2.2.2.2.2.2.2.2.1, g2, g3, g4, g5, g6, g7, g8, o.2.2.2.2.2.2.2.2.2, g10] := zv_meth (K := (z_KF0, z_KC0, z_KL0, z_KT0, [], [], [], none)) (FT := z_FT) (MT := z_MT) (n := 3) zxp83 (z_ks0 _ (fun _ h => List.mem_cons_of_mem _ h) _ _ _ _ (fun j r h _ => by cases h)) (fun _ _ => zs_KX_p) zyw_X_seen (fun va F G h => by obtain ⟨rfl, _⟩ := h; rfl) (fun va F G h => by obtain ⟨rfl, _⟩ := h; rfl) rfl fun good va F G hB hret hvret hP => by
  obtain ⟨rfl, rfl, rfl⟩ := hP
  unfold zf_X_seen at h
  refine zv_ild hB zd83_0 rfl rfl ?_
  refine zv_ild hB zd83_1 rfl rfl ?_
  obtain ⟨r1, hr1, h⟩ := zi_bind h
  refine zv_cs hB (zv_emq (va2 := [.inl x1, .inl x2]) (F := [.inr 3, .inr 1000, .inr 1000, .inl f3, .inl f4, .inl f5, .inl f6, .inl f7, .inl f8, .inl f9, .inl f10, .inl f11, .inl f12, .inl f13, .inl f14, .inl f15, .inl f16, .inl f17]) (F' := [.inr 3, .inr 1000, .inr 1000, .inl f3, .inl f4, .inl f5, .inl f6, .inl f7, .inl f8, .inl f9, .inl f10, .inl f11, .inl f12, .inl f13, .inl f14, .inl f15, .inl f16, .inl f17]) (G := [g0, g1, g2, g3, g4, g5, g6, g7, g8, g9, g10]) (G' := [g0, g1, g2, g3, g4, g5, g6, g7, g8, g9, g10]) (ρ := []) (φ := []) (ψ := []) [none, none, none, none, none, none, none, none, none, none, none, none, none, none, none, none, none, none] [none, none, none, none, none, none, none, none, none, none, none] zyw_X_isPlace zyw_X_seen zye_X_seen (by decide +kernel) (zt_X_isPlace hr1) trivial trivial rfl rfl rfl rfl rfl rfl rfl) zd83_2 zxt16 rfl (by decide) (by decide) rfl ?_
  refine zv_zne hB zd83_5 rfl (fun hc2 => ?_) (fun hc2 => ?_)
  · rw [if_neg hc2] at h
    refine zv_ald hB zd83_10 rfl rfl rfl ?_
    refine zv_getr hB zd83_11 rfl ?_
    refine zv_ald hB zd83_14 rfl rfl rfl ?_
    refine zv_getr hB zd83_15 rfl ?_
    refine zv_ald hB zd83_18 rfl rfl rfl ?_
    refine zv_getq hB zd83_19 rfl rfl rfl ?_
    obtain ⟨r3, hr3, h⟩ := zi_bind h
    refine zv_cv hB (zv_emq (va2 := [.inr 1, .inr 2, .inr 3]) (F := [.inr 3, .inr 1000, .inr 1000, .inl f3, .inl f4, .inl f5, .inl f6, .inl f7, .inl f8, .inl f9, .inl f10, .inl f11, .inl f12, .inl f13, .inl f14, .inl f15, .inl f16, .inl f17]) (F' := [.inr 3, .inr 2, .inr 3, .inl r3.1, .inl f4, .inl f5, .inl f6, .inl f7, .inl f8, .inl f9, .inl f10, .inl f11, .inl f12, .inl f13, .inl f14, .inl f15, .inl f16, .inl f17]) (G := [g0, g1, g2, g3, g4, g5, g6, g7, g8, g9, g10]) (G' := [r3.2, g1, g2, g3, g4, g5, g6, g7, g8, g9, g10]) (ρ := [1, 2, 3, 4]) (φ := [1, 2, 3]) (ψ := [0]) [none, some 0, some 1, some 2, none, none, none, none, none, none, none, none, none, none, none, none, none, none] [some 0, none, none, none, none, none, none, none, none, none, none] zyw_View_open zyw_X_seen zye_X_seen (by decide +kernel) (zt_View_open hr3) ⟨⟨_, rfl, fun (h : zv_is (.inr 1000)) => (Nat.lt_irrefl 1000 h).elim⟩, ⟨_, rfl, fun (h : zv_is (.inr 1000)) => (Nat.lt_irrefl 1000 h).elim⟩, ⟨_, rfl, fun _ => rfl⟩, trivial⟩ ⟨rfl, trivial⟩ rfl rfl rfl rfl rfl rfl rfl) zd83_22 zxt84 rfl (by decide) (by decide) rfl ?_
    refine zv_ald hB zd83_25 rfl rfl rfl ?_
    refine zv_getr hB zd83_26 rfl ?_
    refine zv_ild hB zd83_29 rfl rfl ?_
    refine zv_ild hB zd83_30 rfl rfl ?_
    obtain ⟨r4, hr4, h⟩ := zi_bind h
    refine zv_cv hB (zv_emq (va2 := [.inr 1, .inl x1, .inl x2]) (F := [.inr 3, .inr 2, .inr 3, .inl r3.1, .inl f4, .inl f5, .inl f6, .inl f7, .inl f8, .inl f9, .inl f10, .inl f11, .inl f12, .inl f13, .inl f14, .inl f15, .inl f16, .inl f17]) (F' := [.inr 3, .inr 2, .inr 3, .inl r4.2.2.2.1, .inl r4.1, .inl r4.2.1, .inl f6, .inl f7, .inl r4.2.2.1, .inl f9, .inl f10, .inl f11, .inl f12, .inl f13, .inl r4.2.2.2.2.1, .inl f15, .inl r4.2.2.2.2.2.1, .inl f17]) (G := [r3.2, g1, g2, g3, g4, g5, g6, g7, g8, g9, g10]) (G' := [r3.2, r4.2.2.2.2.2.2.1, g2, g3, g4, g5, g6, g7, g8, r4.2.2.2.2.2.2.2, g10]) (ρ := [1, 3, 5, 2, 6, 7, 8, 9, 10, 11, 12, 13, 14]) (φ := [2, 1, 4, 5, 6, 7, 8, 9, 10, 11, 12, 13, 3, 14, 15, 16, 17]) (ψ := [1, 2, 3, 4, 5, 6, 7, 8, 9, 10]) [none, some 1, some 0, some 12, some 2, some 3, some 4, some 5, some 6, some 7, some 8, some 9, some 10, some 11, some 13, some 14, some 15, some 16] [none, some 0, some 1, some 2, some 3, some 4, some 5, some 6, some 7, some 8, some 9] zyw_View_look zyw_X_seen zye_X_seen (by decide +kernel) (zt_View_look hr4) ⟨⟨_, rfl, fun _ => rfl⟩, ⟨_, rfl, fun _ => rfl⟩, ⟨_, rfl, fun _ => rfl⟩, ⟨_, rfl, fun _ => rfl⟩, ⟨_, rfl, fun _ => rfl⟩, ⟨_, rfl, fun _ => rfl⟩, ⟨_, rfl, fun _ => rfl⟩, ⟨_, rfl, fun _ => rfl⟩, ⟨_, rfl, fun _ => rfl⟩, ⟨_, rfl, fun _ => rfl⟩, ⟨_, rfl, fun _ => rfl⟩, ⟨_, rfl, fun _ => rfl⟩, ⟨_, rfl, fun _ => rfl⟩, ⟨_, rfl, fun _ => rfl⟩, ⟨_, rfl, fun _ => rfl⟩, ⟨_, rfl, fun _ => rfl⟩, ⟨_, rfl, fun _ => rfl⟩, trivial⟩ ⟨rfl, rfl, rfl, rfl, rfl, rfl, rfl, rfl, rfl, rfl, trivial⟩ rfl rfl rfl rfl rfl rfl rfl) zd83_31 zxt85 rfl (by decide) (by decide) rfl ?_
    refine zv_ald hB zd83_34 rfl rfl rfl ?_
    refine zv_getr hB zd83_35 rfl ?_
    refine zv_getf hB zd83_38 rfl rfl (fun _ _ => ?_)
    have hw := Option.some.inj h
    refine zv_wk hB (L' := [.inr 0, .inl x1, .inl x2]) (F' := [.inr 3, .inr 1000, .inr 1000, .inl r4.2.2.2.1, .inl r4.1, .inl r4.2.1, .inl f6, .inl f7, .inl r4.2.2.1, .inl f9, .inl f10, .inl f11, .inl f12, .inl f13, .inl r4.2.2.2.2.1, .inl f15, .inl r4.2.2.2.2.2.1, .inl f17]) ⟨fun _ => rfl, fun _ => rfl, fun _ => rfl, trivial⟩ ⟨fun _ => rfl, fun (h : zv_is (.inr 1000)) => (Nat.lt_irrefl 1000 h).elim, fun (h : zv_is (.inr 1000)) => (Nat.lt_irrefl 1000 h).elim, fun _ => rfl, fun _ => rfl, fun _ => rfl, fun _ => rfl, fun _ => rfl, fun _ => rfl, fun _ => rfl, fun _ => rfl, fun _ => rfl, fun _ => rfl, fun _ => rfl, fun _ => rfl, fun _ => rfl, fun _ => rfl, fun _ => rfl, trivial⟩ ?_
    subst hw
    exact hret _ _ _ _ _ zd83_41 (by trivial) ⟨rfl, rfl, rfl⟩
  · rw [if_pos hc2] at h
    refine zv_con hB zd83_8 rfl ?_
    have hw := Option.some.inj h
    subst hw
    exact hret _ _ _ _ _ zd83_9 (by trivial) ⟨rfl, rfl, rfl⟩
/-! Law_setOther (LStarTales$Sky;I)V -/
-- names: 0 Law('arg', 0), 1 Sky('arg', 1), 2 (0, 13)(0, 4, 12), 3 (0, 24)(1, 1, 3), 4 (0, 24)(1, 1, 2), 5 (0, 24)(1, 1, 1)
-- fields: f0 = 1.hour_; arrays: g0 = 2, g1 = 3, g2 = 4, g3 = 5; out: [('g', 0)]
abbrev zy_Law_setOther : zNL := (6, [(0, 4), (1, 1)], [(1, 1, 6, 0)], [(0, 4, 12, 2), (1, 1, 3, 3), (1, 1, 2, 4), (1, 1, 1, 5)], [(2, 0, 13, 0), (3, 0, 24, 1), (4, 0, 24, 2), (5, 0, 24, 3)])
theorem zyw_Law_setOther : zv_wf zy_Law_setOther = true := by decide +kernel
theorem zye_Law_setOther : zv_ek2 zy_Law_setOther = true := by decide +kernel
def zf_Law_setOther (x2 : Int) (f0 : Int) (g0 : (Int → Int)) (g1 : (Int → Int)) (g2 : (Int → Int)) (g3 : (Int → Int)) : Option ((Int → Int)) := cond (zi_ix x2 24) ((zf_Sky_standing x2 f0 g3).bind fun r2 => (some (zv_up (zv_up (zv_up (zv_up g0 6 x2) 7 (g1 x2)) 8 (g2 x2)) 9 r2))) none
theorem zd99_0 : decode zxm99.2.1 0 = .ok (.aload_n 0, 1) := by decide +kernel
theorem zd99_1 : decode zxm99.2.1 1 = .ok (.getfield 56, 3) := by decide +kernel
theorem zd99_4 : decode zxm99.2.1 4 = .ok (.bipush 6, 2) := by decide +kernel
theorem zd99_6 : decode zxm99.2.1 6 = .ok (.iload_n 2, 1) := by decide +kernel
theorem zd99_7 : decode zxm99.2.1 7 = .ok (.iastore, 1) := by decide +kernel
theorem zd99_8 : decode zxm99.2.1 8 = .ok (.aload_n 0, 1) := by decide +kernel
theorem zd99_9 : decode zxm99.2.1 9 = .ok (.getfield 56, 3) := by decide +kernel
theorem zd99_12 : decode zxm99.2.1 12 = .ok (.bipush 7, 2) := by decide +kernel
theorem zd99_14 : decode zxm99.2.1 14 = .ok (.aload_n 1, 1) := by decide +kernel
theorem zd99_15 : decode zxm99.2.1 15 = .ok (.getfield 83, 3) := by decide +kernel
theorem zd99_18 : decode zxm99.2.1 18 = .ok (.iload_n 2, 1) := by decide +kernel
theorem zd99_19 : decode zxm99.2.1 19 = .ok (.iaload, 1) := by decide +kernel
theorem zd99_20 : decode zxm99.2.1 20 = .ok (.iastore, 1) := by decide +kernel
theorem zd99_21 : decode zxm99.2.1 21 = .ok (.aload_n 0, 1) := by decide +kernel
theorem zd99_22 : decode zxm99.2.1 22 = .ok (.getfield 56, 3) := by decide +kernel
theorem zd99_25 : decode zxm99.2.1 25 = .ok (.bipush 8, 2) := by decide +kernel
theorem zd99_27 : decode zxm99.2.1 27 = .ok (.aload_n 1, 1) := by decide +kernel
theorem zd99_28 : decode zxm99.2.1 28 = .ok (.getfield 86, 3) := by decide +kernel
theorem zd99_31 : decode zxm99.2.1 31 = .ok (.iload_n 2, 1) := by decide +kernel
theorem zd99_32 : decode zxm99.2.1 32 = .ok (.iaload, 1) := by decide +kernel
theorem zd99_33 : decode zxm99.2.1 33 = .ok (.iastore, 1) := by decide +kernel
theorem zd99_34 : decode zxm99.2.1 34 = .ok (.aload_n 0, 1) := by decide +kernel
theorem zd99_35 : decode zxm99.2.1 35 = .ok (.getfield 56, 3) := by decide +kernel
theorem zd99_38 : decode zxm99.2.1 38 = .ok (.bipush 9, 2) := by decide +kernel
theorem zd99_40 : decode zxm99.2.1 40 = .ok (.aload_n 1, 1) := by decide +kernel
theorem zd99_41 : decode zxm99.2.1 41 = .ok (.iload_n 2, 1) := by decide +kernel
theorem zd99_42 : decode zxm99.2.1 42 = .ok (.invokevirtual 89, 3) := by decide +kernel
theorem zd99_45 : decode zxm99.2.1 45 = .ok (.iastore, 1) := by decide +kernel
theorem zd99_46 : decode zxm99.2.1 46 = .ok (.return_, 1) := by decide +kernel
theorem zt_Law_setOther {x2 : Int} {f0 : Int} {g0 : (Int → Int)} {g1 : (Int → Int)} {g2 : (Int → Int)} {g3 : (Int → Int)} {o : (Int → Int)} (h : zf_Law_setOther x2 f0 g0 g1 g2 g3 = some o) : zv_Fn z_TB z_cl z_KX zy_Law_setOther zxm99 (1, 60) [.inr 0, .inr 1, .inl x2] [.inl f0] [g0, g1, g2, g3] none [.inl f0] [o, g1, g2, g3] := zv_meth (K := (z_KF2, z_KC2, z_KL2, z_KT2, [], [], [], none)) (FT := z_FT) (MT := z_MT) (n := 3) zxp99 (z_ks2 _ (fun _ h => List.mem_cons_of_mem _ h) _ _ _ _ (fun j r h _ => by cases h)) (fun _ _ => zs_KX_p) zyw_Law_setOther (fun va F G h => by obtain ⟨rfl, _⟩ := h; rfl) (fun va F G h => by obtain ⟨rfl, _⟩ := h; rfl) rfl fun good va F G hB hret hvret hP => by
  obtain ⟨rfl, rfl, rfl⟩ := hP
  unfold zf_Law_setOther at h
  refine zv_ald hB zd99_0 rfl rfl rfl ?_
  refine zv_getr hB zd99_1 rfl ?_
  refine zv_con hB zd99_4 rfl ?_
  refine zv_ild hB zd99_6 rfl rfl ?_
  refine zv_iast hB zd99_7 rfl rfl (by decide) (by decide) ?_
  refine zv_ald hB zd99_8 rfl rfl rfl ?_
  refine zv_getr hB zd99_9 rfl ?_
  refine zv_con hB zd99_12 rfl ?_
  refine zv_ald hB zd99_14 rfl rfl rfl ?_
  refine zv_getr hB zd99_15 rfl ?_
  refine zv_ild hB zd99_18 rfl rfl ?_
  obtain ⟨c1, h⟩ := zi_if h
  refine zv_iald hB zd99_19 rfl rfl (zi_ix_ok c1).1 (zi_ix_ok c1).2 (fun _ _ => ?_)
  refine zv_iast hB zd99_20 rfl rfl (by decide) (by decide) ?_
  refine zv_ald hB zd99_21 rfl rfl rfl ?_
  refine zv_getr hB zd99_22 rfl ?_
  refine zv_con hB zd99_25 rfl ?_
  refine zv_ald hB zd99_27 rfl rfl rfl ?_
  refine zv_getr hB zd99_28 rfl ?_
  refine zv_ild hB zd99_31 rfl rfl ?_
  refine zv_iald hB zd99_32 rfl rfl (zi_ix_ok c1).1 (zi_ix_ok c1).2 (fun _ _ => ?_)
  refine zv_iast hB zd99_33 rfl rfl (by decide) (by decide) ?_
  refine zv_ald hB zd99_34 rfl rfl rfl ?_
  refine zv_getr hB zd99_35 rfl ?_
  refine zv_con hB zd99_38 rfl ?_
  refine zv_ald hB zd99_40 rfl rfl rfl ?_
  refine zv_ild hB zd99_41 rfl rfl ?_
  obtain ⟨r2, hr2, h⟩ := zi_bind h
  refine zv_cv hB (zv_emq (va2 := [.inr 1, .inl x2]) (F := [.inl f0]) (F' := [.inl f0]) (G := [(zv_up (zv_up (zv_up g0 6 x2) 7 (g1 x2)) 8 (g2 x2)), g1, g2, g3]) (G' := [(zv_up (zv_up (zv_up g0 6 x2) 7 (g1 x2)) 8 (g2 x2)), g1, g2, g3]) (ρ := [1, 5]) (φ := [0]) (ψ := [3]) [some 0] [none, none, none, some 0] zyw_Sky_standing zyw_Law_setOther zye_Law_setOther (by decide +kernel) (zt_Sky_standing hr2) ⟨⟨_, rfl, fun _ => rfl⟩, trivial⟩ ⟨rfl, trivial⟩ rfl rfl rfl rfl rfl rfl rfl) zd99_42 zxt82 rfl (by decide) (by decide) rfl ?_
  refine zv_iast hB zd99_45 rfl rfl (by decide) (by decide) ?_
  have hw := Option.some.inj h
  subst hw
  exact hvret _ _ _ _ zd99_46 trivial ⟨rfl, rfl, rfl⟩
/-! View_isDrawn (II)Z -/
-- names: 0 View('arg', 0), 1 (0, 24)(0, 7, 8), 2 (0, 24)(0, 7, 9), 3 Law(0, 7, 1), 4 Sky(0, 7, 0), 5 (0, 13)(3, 4, 12), 6 (0, 24)(4, 1, 3), 7 (0, 24)(4, 1, 2), 8 (0, 24)(4, 1, 1), 9 (0, 14)(3, 4, 3), 10 (0, 14)(3, 4, 5), 11 (0, 14)(3, 4, 6), 12 (0, 200)(3, 4, 0), 13 (0, 40)(3, 4, 13), 14 (0, 200)(3, 4, 1)
-- fields: f0 = 0.law_, f1 = 0.sky_, f2 = 4.hour_, f3 = 3.clauses_, f4 = 3.answer_, f5 = 3.linesByPlace_; arrays: g0 = 1, g1 = 2, g2 = 5, g3 = 6, g4 = 7, g5 = 8, g6 = 9, g7 = 10, g8 = 11, g9 = 12, g10 = 13, g11 = 14; out: [('ret', None), ('f', 4), ('g', 0), ('g', 1), ('g', 2), ('g', 10)]
abbrev zy_View_isDrawn : zNL := (15, [(0, 7), (3, 4), (4, 1)], [(0, 7, 1, 0), (0, 7, 0, 1), (4, 1, 6, 2), (3, 4, 7, 3), (3, 4, 14, 4), (3, 4, 11, 5)], [(0, 7, 8, 1), (0, 7, 9, 2), (3, 4, 12, 5), (4, 1, 3, 6), (4, 1, 2, 7), (4, 1, 1, 8), (3, 4, 3, 9), (3, 4, 5, 10), (3, 4, 6, 11), (3, 4, 0, 12), (3, 4, 13, 13), (3, 4, 1, 14)], [(1, 0, 24, 0), (2, 0, 24, 1), (5, 0, 13, 2), (6, 0, 24, 3), (7, 0, 24, 4), (8, 0, 24, 5), (9, 0, 14, 6), (10, 0, 14, 7), (11, 0, 14, 8), (12, 0, 200, 9), (13, 0, 40, 10), (14, 0, 200, 11)])
theorem zyw_View_isDrawn : zv_wf zy_View_isDrawn = true := by decide +kernel
theorem zye_View_isDrawn : zv_ek2 zy_View_isDrawn = true := by decide +kernel
def zf_View_isDrawn (x1 : Int) (x2 : Int) (f2 : Int) (f3 : Int) (f4 : Int) (f5 : Int) (g0 : (Int → Int)) (g1 : (Int → Int)) (g2 : (Int → Int)) (g3 : (Int → Int)) (g4 : (Int → Int)) (g5 : (Int → Int)) (g6 : (Int → Int)) (g7 : (Int → Int)) (g8 : (Int → Int)) (g9 : (Int → Int)) (g10 : (Int → Int)) (g11 : (Int → Int)) : Option (Int × Int × (Int → Int) × (Int → Int) × (Int → Int) × (Int → Int)) := cond (zi_ix x1 24) (if (zi_and (zi_shr (g0 x1) x2) 1) = 0 then ((zf_Law_setStar x1 f2 g2 g3 g4 g5).bind fun r4 => ((zf_Law_setOther x2 f2 r4 g3 g4 g5).bind fun r5 => (cond (zi_ix x2 24) ((zf_X_columnsBetween (g5 x1) (g5 x2)).bind fun r7 => ((zf_Math_abs (zi_w ((g4 x1) - (g4 x2)))).bind fun r8 => ((zf_Law_anyHolds 106 f3 f4 g6 g7 g8 g9 g10 g11 (zv_up r5 12 (zi_w (r7 + r8)))).bind fun r9 => (if r9.1 = 0 then (if f5 = 0 then (if (zi_and (zi_shr ((zv_up g1 x1 (zi_and (g1 x1) (zi_xor (zi_shl 1 x2) (-1)))) x1) x2) 1) = 0 then (some (0, r9.2.1, (zv_up g0 x1 (zi_or (g0 x1) (zi_shl 1 x2))), (zv_up g1 x1 (zi_and (g1 x1) (zi_xor (zi_shl 1 x2) (-1)))), (zv_up r5 12 (zi_w (r7 + r8))), r9.2.2)) else (some (1, r9.2.1, (zv_up g0 x1 (zi_or (g0 x1) (zi_shl 1 x2))), (zv_up g1 x1 (zi_and (g1 x1) (zi_xor (zi_shl 1 x2) (-1)))), (zv_up r5 12 (zi_w (r7 + r8))), r9.2.2))) else (if (zi_and (zi_shr ((zv_up g1 x1 (zi_and (g1 x1) (zi_xor (zi_shl 1 x2) (-1)))) x1) x2) 1) = 0 then (some (0, r9.2.1, g0, (zv_up g1 x1 (zi_and (g1 x1) (zi_xor (zi_shl 1 x2) (-1)))), (zv_up r5 12 (zi_w (r7 + r8))), r9.2.2)) else (some (1, r9.2.1, g0, (zv_up g1 x1 (zi_and (g1 x1) (zi_xor (zi_shl 1 x2) (-1)))), (zv_up r5 12 (zi_w (r7 + r8))), r9.2.2)))) else (if f5 = 0 then (if (zi_and (zi_shr ((zv_up g1 x1 (zi_or (g1 x1) (zi_shl 1 x2))) x1) x2) 1) = 0 then (some (0, r9.2.1, (zv_up g0 x1 (zi_or (g0 x1) (zi_shl 1 x2))), (zv_up g1 x1 (zi_or (g1 x1) (zi_shl 1 x2))), (zv_up r5 12 (zi_w (r7 + r8))), r9.2.2)) else (some (1, r9.2.1, (zv_up g0 x1 (zi_or (g0 x1) (zi_shl 1 x2))), (zv_up g1 x1 (zi_or (g1 x1) (zi_shl 1 x2))), (zv_up r5 12 (zi_w (r7 + r8))), r9.2.2))) else (if (zi_and (zi_shr ((zv_up g1 x1 (zi_or (g1 x1) (zi_shl 1 x2))) x1) x2) 1) = 0 then (some (0, r9.2.1, g0, (zv_up g1 x1 (zi_or (g1 x1) (zi_shl 1 x2))), (zv_up r5 12 (zi_w (r7 + r8))), r9.2.2)) else (some (1, r9.2.1, g0, (zv_up g1 x1 (zi_or (g1 x1) (zi_shl 1 x2))), (zv_up r5 12 (zi_w (r7 + r8))), r9.2.2)))))))) none))) else (if (zi_and (zi_shr (g1 x1) x2) 1) = 0 then (some (0, f4, g0, g1, g2, g10)) else (some (1, f4, g0, g1, g2, g10)))) none
theorem zd98_0 : decode zxm98.2.1 0 = .ok (.aload_n 0, 1) := by decide +kernel
theorem zd98_1 : decode zxm98.2.1 1 = .ok (.getfield 31, 3) := by decide +kernel
theorem zd98_4 : decode zxm98.2.1 4 = .ok (.iload_n 1, 1) := by decide +kernel
theorem zd98_5 : decode zxm98.2.1 5 = .ok (.iaload, 1) := by decide +kernel
theorem zd98_6 : decode zxm98.2.1 6 = .ok (.iload_n 2, 1) := by decide +kernel
theorem zd98_7 : decode zxm98.2.1 7 = .ok (.ishr, 1) := by decide +kernel
theorem zd98_8 : decode zxm98.2.1 8 = .ok (.iconst 1, 1) := by decide +kernel
theorem zd98_9 : decode zxm98.2.1 9 = .ok (.iand, 1) := by decide +kernel
theorem zd98_10 : decode zxm98.2.1 10 = .ok (.ifCond .ne 144, 3) := by decide +kernel
theorem zd98_13 : decode zxm98.2.1 13 = .ok (.aload_n 0, 1) := by decide +kernel
theorem zd98_14 : decode zxm98.2.1 14 = .ok (.getfield 41, 3) := by decide +kernel
theorem zd98_17 : decode zxm98.2.1 17 = .ok (.aload_n 0, 1) := by decide +kernel
theorem zd98_18 : decode zxm98.2.1 18 = .ok (.getfield 37, 3) := by decide +kernel
theorem zd98_21 : decode zxm98.2.1 21 = .ok (.iload_n 1, 1) := by decide +kernel
theorem zd98_22 : decode zxm98.2.1 22 = .ok (.invokevirtual 105, 3) := by decide +kernel
theorem zd98_25 : decode zxm98.2.1 25 = .ok (.aload_n 0, 1) := by decide +kernel
theorem zd98_26 : decode zxm98.2.1 26 = .ok (.getfield 41, 3) := by decide +kernel
theorem zd98_29 : decode zxm98.2.1 29 = .ok (.aload_n 0, 1) := by decide +kernel
theorem zd98_30 : decode zxm98.2.1 30 = .ok (.getfield 37, 3) := by decide +kernel
theorem zd98_33 : decode zxm98.2.1 33 = .ok (.iload_n 2, 1) := by decide +kernel
theorem zd98_34 : decode zxm98.2.1 34 = .ok (.invokevirtual 122, 3) := by decide +kernel
theorem zd98_37 : decode zxm98.2.1 37 = .ok (.aload_n 0, 1) := by decide +kernel
theorem zd98_38 : decode zxm98.2.1 38 = .ok (.getfield 41, 3) := by decide +kernel
theorem zd98_41 : decode zxm98.2.1 41 = .ok (.getfield 60, 3) := by decide +kernel
theorem zd98_44 : decode zxm98.2.1 44 = .ok (.bipush 12, 2) := by decide +kernel
theorem zd98_46 : decode zxm98.2.1 46 = .ok (.aload_n 0, 1) := by decide +kernel
theorem zd98_47 : decode zxm98.2.1 47 = .ok (.getfield 37, 3) := by decide +kernel
theorem zd98_50 : decode zxm98.2.1 50 = .ok (.getfield 125, 3) := by decide +kernel
theorem zd98_53 : decode zxm98.2.1 53 = .ok (.iload_n 1, 1) := by decide +kernel
theorem zd98_54 : decode zxm98.2.1 54 = .ok (.iaload, 1) := by decide +kernel
theorem zd98_55 : decode zxm98.2.1 55 = .ok (.aload_n 0, 1) := by decide +kernel
theorem zd98_56 : decode zxm98.2.1 56 = .ok (.getfield 37, 3) := by decide +kernel
theorem zd98_59 : decode zxm98.2.1 59 = .ok (.getfield 125, 3) := by decide +kernel
theorem zd98_62 : decode zxm98.2.1 62 = .ok (.iload_n 2, 1) := by decide +kernel
theorem zd98_63 : decode zxm98.2.1 63 = .ok (.iaload, 1) := by decide +kernel
theorem zd98_64 : decode zxm98.2.1 64 = .ok (.invokestatic 80, 3) := by decide +kernel
theorem zd98_67 : decode zxm98.2.1 67 = .ok (.aload_n 0, 1) := by decide +kernel
theorem zd98_68 : decode zxm98.2.1 68 = .ok (.getfield 37, 3) := by decide +kernel
theorem zd98_71 : decode zxm98.2.1 71 = .ok (.getfield 84, 3) := by decide +kernel
theorem zd98_74 : decode zxm98.2.1 74 = .ok (.iload_n 1, 1) := by decide +kernel
theorem zd98_75 : decode zxm98.2.1 75 = .ok (.iaload, 1) := by decide +kernel
theorem zd98_76 : decode zxm98.2.1 76 = .ok (.aload_n 0, 1) := by decide +kernel
theorem zd98_77 : decode zxm98.2.1 77 = .ok (.getfield 37, 3) := by decide +kernel
theorem zd98_80 : decode zxm98.2.1 80 = .ok (.getfield 84, 3) := by decide +kernel
theorem zd98_83 : decode zxm98.2.1 83 = .ok (.iload_n 2, 1) := by decide +kernel
theorem zd98_84 : decode zxm98.2.1 84 = .ok (.iaload, 1) := by decide +kernel
theorem zd98_85 : decode zxm98.2.1 85 = .ok (.isub, 1) := by decide +kernel
theorem zd98_86 : decode zxm98.2.1 86 = .ok (.invokestatic 87, 3) := by decide +kernel
theorem zd98_89 : decode zxm98.2.1 89 = .ok (.iadd, 1) := by decide +kernel
theorem zd98_90 : decode zxm98.2.1 90 = .ok (.iastore, 1) := by decide +kernel
theorem zd98_91 : decode zxm98.2.1 91 = .ok (.aload_n 0, 1) := by decide +kernel
theorem zd98_92 : decode zxm98.2.1 92 = .ok (.getfield 41, 3) := by decide +kernel
theorem zd98_95 : decode zxm98.2.1 95 = .ok (.bipush 106, 2) := by decide +kernel
theorem zd98_97 : decode zxm98.2.1 97 = .ok (.invokevirtual 109, 3) := by decide +kernel
theorem zd98_100 : decode zxm98.2.1 100 = .ok (.ifCond .eq 18, 3) := by decide +kernel
theorem zd98_103 : decode zxm98.2.1 103 = .ok (.aload_n 0, 1) := by decide +kernel
theorem zd98_104 : decode zxm98.2.1 104 = .ok (.getfield 34, 3) := by decide +kernel
theorem zd98_107 : decode zxm98.2.1 107 = .ok (.iload_n 1, 1) := by decide +kernel
theorem zd98_108 : decode zxm98.2.1 108 = .ok (.dup2, 1) := by decide +kernel
theorem zd98_109 : decode zxm98.2.1 109 = .ok (.iaload, 1) := by decide +kernel
theorem zd98_110 : decode zxm98.2.1 110 = .ok (.iconst 1, 1) := by decide +kernel
theorem zd98_111 : decode zxm98.2.1 111 = .ok (.iload_n 2, 1) := by decide +kernel
theorem zd98_112 : decode zxm98.2.1 112 = .ok (.ishl, 1) := by decide +kernel
theorem zd98_113 : decode zxm98.2.1 113 = .ok (.ior, 1) := by decide +kernel
theorem zd98_114 : decode zxm98.2.1 114 = .ok (.iastore, 1) := by decide +kernel
theorem zd98_115 : decode zxm98.2.1 115 = .ok (.goto 17, 3) := by decide +kernel
theorem zd98_118 : decode zxm98.2.1 118 = .ok (.aload_n 0, 1) := by decide +kernel
theorem zd98_119 : decode zxm98.2.1 119 = .ok (.getfield 34, 3) := by decide +kernel
theorem zd98_122 : decode zxm98.2.1 122 = .ok (.iload_n 1, 1) := by decide +kernel
theorem zd98_123 : decode zxm98.2.1 123 = .ok (.dup2, 1) := by decide +kernel
theorem zd98_124 : decode zxm98.2.1 124 = .ok (.iaload, 1) := by decide +kernel
theorem zd98_125 : decode zxm98.2.1 125 = .ok (.iconst 1, 1) := by decide +kernel
theorem zd98_126 : decode zxm98.2.1 126 = .ok (.iload_n 2, 1) := by decide +kernel
theorem zd98_127 : decode zxm98.2.1 127 = .ok (.ishl, 1) := by decide +kernel
theorem zd98_128 : decode zxm98.2.1 128 = .ok (.iconst (-1), 1) := by decide +kernel
theorem zd98_129 : decode zxm98.2.1 129 = .ok (.ixor, 1) := by decide +kernel
theorem zd98_130 : decode zxm98.2.1 130 = .ok (.iand, 1) := by decide +kernel
theorem zd98_131 : decode zxm98.2.1 131 = .ok (.iastore, 1) := by decide +kernel
theorem zd98_132 : decode zxm98.2.1 132 = .ok (.aload_n 0, 1) := by decide +kernel
theorem zd98_133 : decode zxm98.2.1 133 = .ok (.getfield 41, 3) := by decide +kernel
theorem zd98_136 : decode zxm98.2.1 136 = .ok (.getfield 128, 3) := by decide +kernel
theorem zd98_139 : decode zxm98.2.1 139 = .ok (.ifCond .ne 15, 3) := by decide +kernel
theorem zd98_142 : decode zxm98.2.1 142 = .ok (.aload_n 0, 1) := by decide +kernel
theorem zd98_143 : decode zxm98.2.1 143 = .ok (.getfield 31, 3) := by decide +kernel
theorem zd98_146 : decode zxm98.2.1 146 = .ok (.iload_n 1, 1) := by decide +kernel
theorem zd98_147 : decode zxm98.2.1 147 = .ok (.dup2, 1) := by decide +kernel
theorem zd98_148 : decode zxm98.2.1 148 = .ok (.iaload, 1) := by decide +kernel
theorem zd98_149 : decode zxm98.2.1 149 = .ok (.iconst 1, 1) := by decide +kernel
theorem zd98_150 : decode zxm98.2.1 150 = .ok (.iload_n 2, 1) := by decide +kernel
theorem zd98_151 : decode zxm98.2.1 151 = .ok (.ishl, 1) := by decide +kernel
theorem zd98_152 : decode zxm98.2.1 152 = .ok (.ior, 1) := by decide +kernel
theorem zd98_153 : decode zxm98.2.1 153 = .ok (.iastore, 1) := by decide +kernel
theorem zd98_154 : decode zxm98.2.1 154 = .ok (.aload_n 0, 1) := by decide +kernel
theorem zd98_155 : decode zxm98.2.1 155 = .ok (.getfield 34, 3) := by decide +kernel
theorem zd98_158 : decode zxm98.2.1 158 = .ok (.iload_n 1, 1) := by decide +kernel
theorem zd98_159 : decode zxm98.2.1 159 = .ok (.iaload, 1) := by decide +kernel
theorem zd98_160 : decode zxm98.2.1 160 = .ok (.iload_n 2, 1) := by decide +kernel
theorem zd98_161 : decode zxm98.2.1 161 = .ok (.ishr, 1) := by decide +kernel
theorem zd98_162 : decode zxm98.2.1 162 = .ok (.iconst 1, 1) := by decide +kernel
theorem zd98_163 : decode zxm98.2.1 163 = .ok (.iand, 1) := by decide +kernel
theorem zd98_164 : decode zxm98.2.1 164 = .ok (.ifCond .eq 7, 3) := by decide +kernel
theorem zd98_167 : decode zxm98.2.1 167 = .ok (.iconst 1, 1) := by decide +kernel
theorem zd98_168 : decode zxm98.2.1 168 = .ok (.goto 4, 3) := by decide +kernel
theorem zd98_171 : decode zxm98.2.1 171 = .ok (.iconst 0, 1) := by decide +kernel
theorem zd98_172 : decode zxm98.2.1 172 = .ok (.ireturn, 1) := by decide +kernel
theorem zt_View_isDrawn {x1 : Int} {x2 : Int} {f2 : Int} {f3 : Int} {f4 : Int} {f5 : Int} {g0 : (Int → Int)} {g1 : (Int → Int)} {g2 : (Int → Int)} {g3 : (Int → Int)} {g4 : (Int → Int)} {g5 : (Int → Int)} {g6 : (Int → Int)} {g7 : (Int → Int)} {g8 : (Int → Int)} {g9 : (Int → Int)} {g10 : (Int → Int)} {g11 : (Int → Int)} {o : Int × Int × (Int → Int) × (Int → Int) × (Int → Int) × (Int → Int)} (h : zf_View_isDrawn x1 x2 f2 f3 f4 f5 g0 g1 g2 g3 g4 g5 g6 g7 g8 g9 g10 g11 = some o) : zv_Fn z_TB z_cl z_KX zy_View_isDrawn zxm98 (3, 180) [.inr 0, .inl x1, .inl x2] [.inr 3, .inr 4, .inl f2, .inl f3, .inl f4, .inl f5] [g0, g1, g2, g3, g4, g5, g6, g7, g8, g9, g10, g11] (some o.1) [.inr 3, .inr 4, .inl f2, .inl f3, .inl o.2.1, .inl f5] [o.2.2.1, o.2.2.2.1, o.2.2.2.2.1, g3, g4, g5, g6, g7, g8, g9, o.2.2.2.2.2, g11] := zv_meth (K := (z_KF11, z_KC11, z_KL11, z_KT11, [], [], [], none)) (FT := z_FT) (MT := z_MT) (n := 3) zxp98 (z_ks11 _ (fun _ h => List.mem_cons_of_mem _ h) _ _ _ _ (fun j r h _ => by cases h)) (fun _ _ => zs_KX_p) zyw_View_isDrawn (fun va F G h => by obtain ⟨rfl, _⟩ := h; rfl) (fun va F G h => by obtain ⟨rfl, _⟩ := h; rfl) rfl fun good va F G hB hret hvret hP => by
  obtain ⟨rfl, rfl, rfl⟩ := hP
  unfold zf_View_isDrawn at h
  refine zv_ald hB zd98_0 rfl rfl rfl ?_
  refine zv_getr hB zd98_1 rfl ?_
  refine zv_ild hB zd98_4 rfl rfl ?_
  obtain ⟨c1, h⟩ := zi_if h
  refine zv_iald hB zd98_5 rfl rfl (zi_ix_ok c1).1 (zi_ix_ok c1).2 (fun _ _ => ?_)
  refine zv_ild hB zd98_6 rfl rfl ?_
  refine zv_shrw hB zd98_7 ?_
  refine zv_con hB zd98_8 rfl ?_
  refine zv_andw hB zd98_9 ?_
  refine zv_zne hB zd98_10 rfl (fun hc2 => ?_) (fun hc2 => ?_)
  · rw [if_neg hc2] at h
    refine zv_ald hB zd98_154 rfl rfl rfl ?_
    refine zv_getr hB zd98_155 rfl ?_
    refine zv_ild hB zd98_158 rfl rfl ?_
    refine zv_iald hB zd98_159 rfl rfl (zi_ix_ok c1).1 (zi_ix_ok c1).2 (fun _ _ => ?_)
    refine zv_ild hB zd98_160 rfl rfl ?_
    refine zv_shrw hB zd98_161 ?_
    refine zv_con hB zd98_162 rfl ?_
    refine zv_andw hB zd98_163 ?_
    refine zv_zeq hB zd98_164 rfl (fun hc3 => ?_) (fun hc3 => ?_)
    · rw [if_pos hc3] at h
      refine zv_con hB zd98_171 rfl ?_
      have hw := Option.some.inj h
      subst hw
      exact hret _ _ _ _ _ zd98_172 (by constructor <;> decide) ⟨rfl, rfl, rfl⟩
    · rw [if_neg hc3] at h
      refine zv_con hB zd98_167 rfl ?_
      refine zv_goto hB zd98_168 rfl ?_
      have hw := Option.some.inj h
      subst hw
      exact hret _ _ _ _ _ zd98_172 (by constructor <;> decide) ⟨rfl, rfl, rfl⟩
  · rw [if_pos hc2] at h
    refine zv_ald hB zd98_13 rfl rfl rfl ?_
    refine zv_getq hB zd98_14 rfl rfl rfl ?_
    refine zv_ald hB zd98_17 rfl rfl rfl ?_
    refine zv_getq hB zd98_18 rfl rfl rfl ?_
    refine zv_ild hB zd98_21 rfl rfl ?_
    obtain ⟨r4, hr4, h⟩ := zi_bind h
    refine zv_cv hB (zv_emq (va2 := [.inr 3, .inr 4, .inl x1]) (F := [.inr 3, .inr 4, .inl f2, .inl f3, .inl f4, .inl f5]) (F' := [.inr 3, .inr 4, .inl f2, .inl f3, .inl f4, .inl f5]) (G := [g0, g1, g2, g3, g4, g5, g6, g7, g8, g9, g10, g11]) (G' := [g0, g1, r4, g3, g4, g5, g6, g7, g8, g9, g10, g11]) (ρ := [3, 4, 5, 6, 7, 8]) (φ := [2]) (ψ := [2, 3, 4, 5]) [none, none, some 0, none, none, none] [none, none, some 0, some 1, some 2, some 3, none, none, none, none, none, none] zyw_Law_setStar zyw_View_isDrawn zye_View_isDrawn (by decide +kernel) (zt_Law_setStar hr4) ⟨⟨_, rfl, fun _ => rfl⟩, trivial⟩ ⟨rfl, rfl, rfl, rfl, trivial⟩ rfl rfl rfl rfl rfl rfl rfl) zd98_22 zxt92 rfl (by decide) (by decide) rfl ?_
    refine zv_ald hB zd98_25 rfl rfl rfl ?_
    refine zv_getq hB zd98_26 rfl rfl rfl ?_
    refine zv_ald hB zd98_29 rfl rfl rfl ?_
    refine zv_getq hB zd98_30 rfl rfl rfl ?_
    refine zv_ild hB zd98_33 rfl rfl ?_
    obtain ⟨r5, hr5, h⟩ := zi_bind h
    refine zv_cv hB (zv_emq (va2 := [.inr 3, .inr 4, .inl x2]) (F := [.inr 3, .inr 4, .inl f2, .inl f3, .inl f4, .inl f5]) (F' := [.inr 3, .inr 4, .inl f2, .inl f3, .inl f4, .inl f5]) (G := [g0, g1, r4, g3, g4, g5, g6, g7, g8, g9, g10, g11]) (G' := [g0, g1, r5, g3, g4, g5, g6, g7, g8, g9, g10, g11]) (ρ := [3, 4, 5, 6, 7, 8]) (φ := [2]) (ψ := [2, 3, 4, 5]) [none, none, some 0, none, none, none] [none, none, some 0, some 1, some 2, some 3, none, none, none, none, none, none] zyw_Law_setOther zyw_View_isDrawn zye_View_isDrawn (by decide +kernel) (zt_Law_setOther hr5) ⟨⟨_, rfl, fun _ => rfl⟩, trivial⟩ ⟨rfl, rfl, rfl, rfl, trivial⟩ rfl rfl rfl rfl rfl rfl rfl) zd98_34 zxt99 rfl (by decide) (by decide) rfl ?_
    refine zv_ald hB zd98_37 rfl rfl rfl ?_
    refine zv_getq hB zd98_38 rfl rfl rfl ?_
    refine zv_getr hB zd98_41 rfl ?_
    refine zv_con hB zd98_44 rfl ?_
    refine zv_ald hB zd98_46 rfl rfl rfl ?_
    refine zv_getq hB zd98_47 rfl rfl rfl ?_
    refine zv_getr hB zd98_50 rfl ?_
    refine zv_ild hB zd98_53 rfl rfl ?_
    refine zv_iald hB zd98_54 rfl rfl (zi_ix_ok c1).1 (zi_ix_ok c1).2 (fun _ _ => ?_)
    refine zv_ald hB zd98_55 rfl rfl rfl ?_
    refine zv_getq hB zd98_56 rfl rfl rfl ?_
    refine zv_getr hB zd98_59 rfl ?_
    refine zv_ild hB zd98_62 rfl rfl ?_
    obtain ⟨c6, h⟩ := zi_if h
    refine zv_iald hB zd98_63 rfl rfl (zi_ix_ok c6).1 (zi_ix_ok c6).2 (fun _ _ => ?_)
    obtain ⟨r7, hr7, h⟩ := zi_bind h
    refine zv_cs hB (zv_emq (va2 := [.inl (g5 x1), .inl (g5 x2)]) (F := [.inr 3, .inr 4, .inl f2, .inl f3, .inl f4, .inl f5]) (F' := [.inr 3, .inr 4, .inl f2, .inl f3, .inl f4, .inl f5]) (G := [g0, g1, r5, g3, g4, g5, g6, g7, g8, g9, g10, g11]) (G' := [g0, g1, r5, g3, g4, g5, g6, g7, g8, g9, g10, g11]) (ρ := []) (φ := []) (ψ := []) [none, none, none, none, none, none] [none, none, none, none, none, none, none, none, none, none, none, none] zyw_X_columnsBetween zyw_View_isDrawn zye_View_isDrawn (by decide +kernel) (zt_X_columnsBetween hr7) trivial trivial rfl rfl rfl rfl rfl rfl rfl) zd98_64 zxt90 rfl (by decide) (by decide) rfl ?_
    refine zv_ald hB zd98_67 rfl rfl rfl ?_
    refine zv_getq hB zd98_68 rfl rfl rfl ?_
    refine zv_getr hB zd98_71 rfl ?_
    refine zv_ild hB zd98_74 rfl rfl ?_
    refine zv_iald hB zd98_75 rfl rfl (zi_ix_ok c1).1 (zi_ix_ok c1).2 (fun _ _ => ?_)
    refine zv_ald hB zd98_76 rfl rfl rfl ?_
    refine zv_getq hB zd98_77 rfl rfl rfl ?_
    refine zv_getr hB zd98_80 rfl ?_
    refine zv_ild hB zd98_83 rfl rfl ?_
    refine zv_iald hB zd98_84 rfl rfl (zi_ix_ok c6).1 (zi_ix_ok c6).2 (fun _ _ => ?_)
    refine zv_subw hB zd98_85 ?_
    obtain ⟨r8, hr8, h⟩ := zi_bind h
    refine zv_cs hB (zv_emq (va2 := [.inl (zi_w ((g4 x1) - (g4 x2)))]) (F := [.inr 3, .inr 4, .inl f2, .inl f3, .inl f4, .inl f5]) (F' := [.inr 3, .inr 4, .inl f2, .inl f3, .inl f4, .inl f5]) (G := [g0, g1, r5, g3, g4, g5, g6, g7, g8, g9, g10, g11]) (G' := [g0, g1, r5, g3, g4, g5, g6, g7, g8, g9, g10, g11]) (ρ := []) (φ := []) (ψ := []) [none, none, none, none, none, none] [none, none, none, none, none, none, none, none, none, none, none, none] zyw_Math_abs zyw_View_isDrawn zye_View_isDrawn (by decide +kernel) (zt_Math_abs hr8) trivial trivial rfl rfl rfl rfl rfl rfl rfl) zd98_86 zxt91 rfl (by decide) (by decide) rfl ?_
    refine zv_addw hB zd98_89 ?_
    refine zv_iast hB zd98_90 rfl rfl (by decide) (by decide) ?_
    refine zv_ald hB zd98_91 rfl rfl rfl ?_
    refine zv_getq hB zd98_92 rfl rfl rfl ?_
    refine zv_con hB zd98_95 rfl ?_
    obtain ⟨r9, hr9, h⟩ := zi_bind h
    refine zv_cv hB (zv_emq (va2 := [.inr 3, .inl 106]) (F := [.inr 3, .inr 4, .inl f2, .inl f3, .inl f4, .inl f5]) (F' := [.inr 3, .inr 4, .inl f2, .inl f3, .inl r9.2.1, .inl f5]) (G := [g0, g1, (zv_up r5 12 (zi_w (r7 + r8))), g3, g4, g5, g6, g7, g8, g9, g10, g11]) (G' := [g0, g1, (zv_up r5 12 (zi_w (r7 + r8))), g3, g4, g5, g6, g7, g8, g9, r9.2.2, g11]) (ρ := [3, 9, 10, 11, 12, 13, 14, 5]) (φ := [3, 4]) (ψ := [6, 7, 8, 9, 10, 11, 2]) [none, none, none, some 0, some 1, none] [none, none, some 6, none, none, none, some 0, some 1, some 2, some 3, some 4, some 5] zyw_Law_anyHolds zyw_View_isDrawn zye_View_isDrawn (by decide +kernel) (zt_Law_anyHolds hr9) ⟨⟨_, rfl, fun _ => rfl⟩, ⟨_, rfl, fun _ => rfl⟩, trivial⟩ ⟨rfl, rfl, rfl, rfl, rfl, rfl, rfl, trivial⟩ rfl rfl rfl rfl rfl rfl rfl) zd98_97 zxt93 rfl (by decide) (by decide) rfl ?_
    refine zv_zeq hB zd98_100 rfl (fun hc10 => ?_) (fun hc10 => ?_)
    · rw [if_pos hc10] at h
      refine zv_ald hB zd98_118 rfl rfl rfl ?_
      refine zv_getr hB zd98_119 rfl ?_
      refine zv_ild hB zd98_122 rfl rfl ?_
      refine zv_dup2 hB zd98_123 rfl rfl ?_
      refine zv_iald hB zd98_124 rfl rfl (zi_ix_ok c1).1 (zi_ix_ok c1).2 (fun _ _ => ?_)
      refine zv_con hB zd98_125 rfl ?_
      refine zv_ild hB zd98_126 rfl rfl ?_
      refine zv_shlw hB zd98_127 ?_
      refine zv_con hB zd98_128 rfl ?_
      refine zv_xorw hB zd98_129 ?_
      refine zv_andw hB zd98_130 ?_
      refine zv_iast hB zd98_131 rfl rfl (zi_ix_ok c1).1 (zi_ix_ok c1).2 ?_
      refine zv_ald hB zd98_132 rfl rfl rfl ?_
      refine zv_getq hB zd98_133 rfl rfl rfl ?_
      refine zv_getf hB zd98_136 rfl rfl (fun _ _ => ?_)
      refine zv_zne hB zd98_139 rfl (fun hc11 => ?_) (fun hc11 => ?_)
      · rw [if_neg hc11] at h
        refine zv_ald hB zd98_154 rfl rfl rfl ?_
        refine zv_getr hB zd98_155 rfl ?_
        refine zv_ild hB zd98_158 rfl rfl ?_
        refine zv_iald hB zd98_159 rfl rfl (zi_ix_ok c1).1 (zi_ix_ok c1).2 (fun _ _ => ?_)
        refine zv_ild hB zd98_160 rfl rfl ?_
        refine zv_shrw hB zd98_161 ?_
        refine zv_con hB zd98_162 rfl ?_
        refine zv_andw hB zd98_163 ?_
        refine zv_zeq hB zd98_164 rfl (fun hc12 => ?_) (fun hc12 => ?_)
        · rw [if_pos hc12] at h
          refine zv_con hB zd98_171 rfl ?_
          have hw := Option.some.inj h
          subst hw
          exact hret _ _ _ _ _ zd98_172 (by constructor <;> decide) ⟨rfl, rfl, rfl⟩
        · rw [if_neg hc12] at h
          refine zv_con hB zd98_167 rfl ?_
          refine zv_goto hB zd98_168 rfl ?_
          have hw := Option.some.inj h
          subst hw
          exact hret _ _ _ _ _ zd98_172 (by constructor <;> decide) ⟨rfl, rfl, rfl⟩
      · rw [if_pos hc11] at h
        refine zv_ald hB zd98_142 rfl rfl rfl ?_
        refine zv_getr hB zd98_143 rfl ?_
        refine zv_ild hB zd98_146 rfl rfl ?_
        refine zv_dup2 hB zd98_147 rfl rfl ?_
        refine zv_iald hB zd98_148 rfl rfl (zi_ix_ok c1).1 (zi_ix_ok c1).2 (fun _ _ => ?_)
        refine zv_con hB zd98_149 rfl ?_
        refine zv_ild hB zd98_150 rfl rfl ?_
        refine zv_shlw hB zd98_151 ?_
        refine zv_orw hB zd98_152 ?_
        refine zv_iast hB zd98_153 rfl rfl (zi_ix_ok c1).1 (zi_ix_ok c1).2 ?_
        refine zv_ald hB zd98_154 rfl rfl rfl ?_
        refine zv_getr hB zd98_155 rfl ?_
        refine zv_ild hB zd98_158 rfl rfl ?_
        refine zv_iald hB zd98_159 rfl rfl (zi_ix_ok c1).1 (zi_ix_ok c1).2 (fun _ _ => ?_)
        refine zv_ild hB zd98_160 rfl rfl ?_
        refine zv_shrw hB zd98_161 ?_
        refine zv_con hB zd98_162 rfl ?_
        refine zv_andw hB zd98_163 ?_
        refine zv_zeq hB zd98_164 rfl (fun hc13 => ?_) (fun hc13 => ?_)
        · rw [if_pos hc13] at h
          refine zv_con hB zd98_171 rfl ?_
          have hw := Option.some.inj h
          subst hw
          exact hret _ _ _ _ _ zd98_172 (by constructor <;> decide) ⟨rfl, rfl, rfl⟩
        · rw [if_neg hc13] at h
          refine zv_con hB zd98_167 rfl ?_
          refine zv_goto hB zd98_168 rfl ?_
          have hw := Option.some.inj h
          subst hw
          exact hret _ _ _ _ _ zd98_172 (by constructor <;> decide) ⟨rfl, rfl, rfl⟩
    · rw [if_neg hc10] at h
      refine zv_ald hB zd98_103 rfl rfl rfl ?_
      refine zv_getr hB zd98_104 rfl ?_
      refine zv_ild hB zd98_107 rfl rfl ?_
      refine zv_dup2 hB zd98_108 rfl rfl ?_
      refine zv_iald hB zd98_109 rfl rfl (zi_ix_ok c1).1 (zi_ix_ok c1).2 (fun _ _ => ?_)
      refine zv_con hB zd98_110 rfl ?_
      refine zv_ild hB zd98_111 rfl rfl ?_
      refine zv_shlw hB zd98_112 ?_
      refine zv_orw hB zd98_113 ?_
      refine zv_iast hB zd98_114 rfl rfl (zi_ix_ok c1).1 (zi_ix_ok c1).2 ?_
      refine zv_goto hB zd98_115 rfl ?_
      refine zv_ald hB zd98_132 rfl rfl rfl ?_
      refine zv_getq hB zd98_133 rfl rfl rfl ?_
      refine zv_getf hB zd98_136 rfl rfl (fun _ _ => ?_)
      refine zv_zne hB zd98_139 rfl (fun hc14 => ?_) (fun hc14 => ?_)
      · rw [if_neg hc14] at h
        refine zv_ald hB zd98_154 rfl rfl rfl ?_
        refine zv_getr hB zd98_155 rfl ?_
        refine zv_ild hB zd98_158 rfl rfl ?_
        refine zv_iald hB zd98_159 rfl rfl (zi_ix_ok c1).1 (zi_ix_ok c1).2 (fun _ _ => ?_)
        refine zv_ild hB zd98_160 rfl rfl ?_
        refine zv_shrw hB zd98_161 ?_
        refine zv_con hB zd98_162 rfl ?_
        refine zv_andw hB zd98_163 ?_
        refine zv_zeq hB zd98_164 rfl (fun hc15 => ?_) (fun hc15 => ?_)
        · rw [if_pos hc15] at h
          refine zv_con hB zd98_171 rfl ?_
          have hw := Option.some.inj h
          subst hw
          exact hret _ _ _ _ _ zd98_172 (by constructor <;> decide) ⟨rfl, rfl, rfl⟩
        · rw [if_neg hc15] at h
          refine zv_con hB zd98_167 rfl ?_
          refine zv_goto hB zd98_168 rfl ?_
          have hw := Option.some.inj h
          subst hw
          exact hret _ _ _ _ _ zd98_172 (by constructor <;> decide) ⟨rfl, rfl, rfl⟩
      · rw [if_pos hc14] at h
        refine zv_ald hB zd98_142 rfl rfl rfl ?_
        refine zv_getr hB zd98_143 rfl ?_
        refine zv_ild hB zd98_146 rfl rfl ?_
        refine zv_dup2 hB zd98_147 rfl rfl ?_
        refine zv_iald hB zd98_148 rfl rfl (zi_ix_ok c1).1 (zi_ix_ok c1).2 (fun _ _ => ?_)
        refine zv_con hB zd98_149 rfl ?_
        refine zv_ild hB zd98_150 rfl rfl ?_
        refine zv_shlw hB zd98_151 ?_
        refine zv_orw hB zd98_152 ?_
        refine zv_iast hB zd98_153 rfl rfl (zi_ix_ok c1).1 (zi_ix_ok c1).2 ?_
        refine zv_ald hB zd98_154 rfl rfl rfl ?_
        refine zv_getr hB zd98_155 rfl ?_
        refine zv_ild hB zd98_158 rfl rfl ?_
        refine zv_iald hB zd98_159 rfl rfl (zi_ix_ok c1).1 (zi_ix_ok c1).2 (fun _ _ => ?_)
        refine zv_ild hB zd98_160 rfl rfl ?_
        refine zv_shrw hB zd98_161 ?_
        refine zv_con hB zd98_162 rfl ?_
        refine zv_andw hB zd98_163 ?_
        refine zv_zeq hB zd98_164 rfl (fun hc16 => ?_) (fun hc16 => ?_)
        · rw [if_pos hc16] at h
          refine zv_con hB zd98_171 rfl ?_
          have hw := Option.some.inj h
          subst hw
          exact hret _ _ _ _ _ zd98_172 (by constructor <;> decide) ⟨rfl, rfl, rfl⟩
        · rw [if_neg hc16] at h
          refine zv_con hB zd98_167 rfl ?_
          refine zv_goto hB zd98_168 rfl ?_
          have hw := Option.some.inj h
          subst hw
          exact hret _ _ _ _ _ zd98_172 (by constructor <;> decide) ⟨rfl, rfl, rfl⟩
/-! View_draw ()V -/
-- names: 0 View('arg', 0), 1 (0, 24)(0, 7, 5), 2 Law(0, 7, 1), 3 (0, 13)(2, 4, 12), 4 Sky(0, 7, 0), 5 (0, 24)(0, 7, 8), 6 (0, 24)(0, 7, 9), 7 (0, 24)(4, 1, 3), 8 (0, 24)(4, 1, 2), 9 (0, 24)(4, 1, 1), 10 (0, 14)(2, 4, 3), 11 (0, 14)(2, 4, 5), 12 (0, 14)(2, 4, 6), 13 (0, 200)(2, 4, 0), 14 (0, 40)(2, 4, 13), 15 (0, 200)(2, 4, 1)
-- fields: f0 = 0.law_, f1 = 2.tellsLines_, f2 = 0.x_, f3 = 0.y_, f4 = 0.sky_, f5 = 4.hour_, f6 = 4.night_, f7 = 0.shown_, f8 = 2.clauses_, f9 = 2.answer_, f10 = 2.linesByPlace_; arrays: g0 = 1, g1 = 3, g2 = 5, g3 = 6, g4 = 7, g5 = 8, g6 = 9, g7 = 10, g8 = 11, g9 = 12, g10 = 13, g11 = 14, g12 = 15; out: [('f', 2), ('f', 3), ('f', 9), ('g', 0), ('g', 1), ('g', 2), ('g', 3), ('g', 11)]
abbrev zy_View_draw : zNL := (16, [(0, 7), (2, 4), (4, 1)], [(0, 7, 1, 0), (2, 4, 9, 1), (0, 7, 2, 2), (0, 7, 3, 3), (0, 7, 0, 4), (4, 1, 6, 5), (4, 1, 7, 6), (0, 7, 4, 7), (2, 4, 7, 8), (2, 4, 14, 9), (2, 4, 11, 10)], [(0, 7, 5, 1), (2, 4, 12, 3), (0, 7, 8, 5), (0, 7, 9, 6), (4, 1, 3, 7), (4, 1, 2, 8), (4, 1, 1, 9), (2, 4, 3, 10), (2, 4, 5, 11), (2, 4, 6, 12), (2, 4, 0, 13), (2, 4, 13, 14), (2, 4, 1, 15)], [(1, 0, 24, 0), (3, 0, 13, 1), (5, 0, 24, 2), (6, 0, 24, 3), (7, 0, 24, 4), (8, 0, 24, 5), (9, 0, 24, 6), (10, 0, 14, 7), (11, 0, 14, 8), (12, 0, 14, 9), (13, 0, 200, 10), (14, 0, 40, 11), (15, 0, 200, 12)])
theorem zyw_View_draw : zv_wf zy_View_draw = true := by decide +kernel
theorem zye_View_draw : zv_ek2 zy_View_draw = true := by decide +kernel
def zf_View_draw_l1_b (x1 : Int) (f5 : Int) (f7 : Int) (f8 : Int) (f10 : Int) (g4 : (Int → Int)) (g5 : (Int → Int)) (g6 : (Int → Int)) (g7 : (Int → Int)) (g8 : (Int → Int)) (g9 : (Int → Int)) (g10 : (Int → Int)) (g12 : (Int → Int)) (rec : Int → Int → (Int → Int) → (Int → Int) → (Int → Int) → (Int → Int) → (Int → Int) → Option (Int × (Int → Int) × (Int → Int) × (Int → Int) × (Int → Int) × (Int → Int))) (x2 : Int) (f9 : Int) (g0 : (Int → Int)) (g1 : (Int → Int)) (g2 : (Int → Int)) (g3 : (Int → Int)) (g11 : (Int → Int)) : Option (Int × (Int → Int) × (Int → Int) × (Int → Int) × (Int → Int) × (Int → Int)) := if x2 < 24 then (if (zi_and (zi_shr f7 x1) 1) = 0 then (some (f9, g0, g1, g2, g3, g11)) else (if (zi_and (zi_shr f7 x2) 1) = 0 then (rec (zi_w (x2 + 1)) f9 g0 g1 g2 g3 g11) else ((zf_View_isDrawn x1 x2 f5 f8 f9 f10 g2 g3 g1 g4 g5 g6 g7 g8 g9 g10 g11 g12).bind fun r8 => (if r8.1 = 0 then (rec (zi_w (x2 + 1)) r8.2.1 g0 r8.2.2.2.2.1 r8.2.2.1 r8.2.2.2.1 r8.2.2.2.2.2) else (cond (zi_ix x1 24) (cond (zi_ix x2 24) (rec (zi_w (x2 + 1)) r8.2.1 (zv_up (zv_up g0 x1 (zi_or (g0 x1) (zi_shl 1 x2))) x2 (zi_or ((zv_up g0 x1 (zi_or (g0 x1) (zi_shl 1 x2))) x2) (zi_shl 1 x1))) r8.2.2.2.2.1 r8.2.2.1 r8.2.2.2.1 r8.2.2.2.2.2) none) none))))) else (some (f9, g0, g1, g2, g3, g11))
def zf_View_draw_l1 (x1 : Int) (f5 : Int) (f7 : Int) (f8 : Int) (f10 : Int) (g4 : (Int → Int)) (g5 : (Int → Int)) (g6 : (Int → Int)) (g7 : (Int → Int)) (g8 : (Int → Int)) (g9 : (Int → Int)) (g10 : (Int → Int)) (g12 : (Int → Int)) : Nat → Int → Int → (Int → Int) → (Int → Int) → (Int → Int) → (Int → Int) → (Int → Int) → Option (Int × (Int → Int) × (Int → Int) × (Int → Int) × (Int → Int) × (Int → Int))
  | 0, _, _, _, _, _, _, _ => none
  | n + 1, x2, f9, g0, g1, g2, g3, g11 => zf_View_draw_l1_b x1 f5 f7 f8 f10 g4 g5 g6 g7 g8 g9 g10 g12 (zf_View_draw_l1 x1 f5 f7 f8 f10 g4 g5 g6 g7 g8 g9 g10 g12 n) x2 f9 g0 g1 g2 g3 g11
def zf_View_draw_l0_b (f5 : Int) (f7 : Int) (f8 : Int) (f10 : Int) (g4 : (Int → Int)) (g5 : (Int → Int)) (g6 : (Int → Int)) (g7 : (Int → Int)) (g8 : (Int → Int)) (g9 : (Int → Int)) (g10 : (Int → Int)) (g12 : (Int → Int)) (rec : Int → Int → (Int → Int) → (Int → Int) → (Int → Int) → (Int → Int) → (Int → Int) → Option (Int × (Int → Int) × (Int → Int) × (Int → Int) × (Int → Int) × (Int → Int))) (x1 : Int) (f9 : Int) (g0 : (Int → Int)) (g1 : (Int → Int)) (g2 : (Int → Int)) (g3 : (Int → Int)) (g11 : (Int → Int)) : Option (Int × (Int → Int) × (Int → Int) × (Int → Int) × (Int → Int) × (Int → Int)) := if x1 < 24 then ((zf_View_draw_l1 x1 f5 f7 f8 f10 g4 g5 g6 g7 g8 g9 g10 g12 zi_fu (zi_w (x1 + 1)) f9 g0 g1 g2 g3 g11).bind fun q12 => (rec (zi_w (x1 + 1)) q12.1 q12.2.1 q12.2.2.1 q12.2.2.2.1 q12.2.2.2.2.1 q12.2.2.2.2.2)) else (some (f9, g0, g1, g2, g3, g11))
def zf_View_draw_l0 (f5 : Int) (f7 : Int) (f8 : Int) (f10 : Int) (g4 : (Int → Int)) (g5 : (Int → Int)) (g6 : (Int → Int)) (g7 : (Int → Int)) (g8 : (Int → Int)) (g9 : (Int → Int)) (g10 : (Int → Int)) (g12 : (Int → Int)) : Nat → Int → Int → (Int → Int) → (Int → Int) → (Int → Int) → (Int → Int) → (Int → Int) → Option (Int × (Int → Int) × (Int → Int) × (Int → Int) × (Int → Int) × (Int → Int))
  | 0, _, _, _, _, _, _, _ => none
  | n + 1, x1, f9, g0, g1, g2, g3, g11 => zf_View_draw_l0_b f5 f7 f8 f10 g4 g5 g6 g7 g8 g9 g10 g12 (zf_View_draw_l0 f5 f7 f8 f10 g4 g5 g6 g7 g8 g9 g10 g12 n) x1 f9 g0 g1 g2 g3 g11
def zf_View_draw (f1 : Int) (f2 : Int) (f3 : Int) (f5 : Int) (f6 : Int) (f7 : Int) (f8 : Int) (f9 : Int) (f10 : Int) (g0 : (Int → Int)) (g1 : (Int → Int)) (g2 : (Int → Int)) (g3 : (Int → Int)) (g4 : (Int → Int)) (g5 : (Int → Int)) (g6 : (Int → Int)) (g7 : (Int → Int)) (g8 : (Int → Int)) (g9 : (Int → Int)) (g10 : (Int → Int)) (g11 : (Int → Int)) (g12 : (Int → Int)) : Option (Int × Int × Int × (Int → Int) × (Int → Int) × (Int → Int) × (Int → Int) × (Int → Int)) := (zf_Arrays_fill_24 0 g0).bind fun r1 => (if f1 = 0 then (some (f2, f3, f9, r1, g1, g2, g3, g11)) else ((zf_View_goTo f2 f3 f2 f3 f5 f6 g1).bind fun r3 => ((zf_View_draw_l0 f5 f7 f8 f10 g4 g5 g6 g7 g8 g9 g10 g12 zi_fu 0 f9 r1 r3.2.2 g2 g3 g11).bind fun q13 => (some (r3.1, r3.2.1, q13.1, q13.2.1, q13.2.2.1, q13.2.2.2.1, q13.2.2.2.2.1, q13.2.2.2.2.2)))))
theorem zd97_0 : decode zxm97.2.1 0 = .ok (.aload_n 0, 1) := by decide +kernel
theorem zd97_1 : decode zxm97.2.1 1 = .ok (.getfield 21, 3) := by decide +kernel
theorem zd97_4 : decode zxm97.2.1 4 = .ok (.iconst 0, 1) := by decide +kernel
theorem zd97_5 : decode zxm97.2.1 5 = .ok (.invokestatic 45, 3) := by decide +kernel
theorem zd97_8 : decode zxm97.2.1 8 = .ok (.aload_n 0, 1) := by decide +kernel
theorem zd97_9 : decode zxm97.2.1 9 = .ok (.getfield 41, 3) := by decide +kernel
theorem zd97_12 : decode zxm97.2.1 12 = .ok (.getfield 115, 3) := by decide +kernel
theorem zd97_15 : decode zxm97.2.1 15 = .ok (.ifCond .ne 4, 3) := by decide +kernel
theorem zd97_18 : decode zxm97.2.1 18 = .ok (.return_, 1) := by decide +kernel
theorem zd97_19 : decode zxm97.2.1 19 = .ok (.aload_n 0, 1) := by decide +kernel
theorem zd97_20 : decode zxm97.2.1 20 = .ok (.aload_n 0, 1) := by decide +kernel
theorem zd97_21 : decode zxm97.2.1 21 = .ok (.getfield 9, 3) := by decide +kernel
theorem zd97_24 : decode zxm97.2.1 24 = .ok (.aload_n 0, 1) := by decide +kernel
theorem zd97_25 : decode zxm97.2.1 25 = .ok (.getfield 15, 3) := by decide +kernel
theorem zd97_28 : decode zxm97.2.1 28 = .ok (.invokevirtual 63, 3) := by decide +kernel
theorem zd97_31 : decode zxm97.2.1 31 = .ok (.iconst 0, 1) := by decide +kernel
theorem zd97_32 : decode zxm97.2.1 32 = .ok (.istore_n 1, 1) := by decide +kernel
theorem zd97_33 : decode zxm97.2.1 33 = .ok (.iload_n 1, 1) := by decide +kernel
theorem zd97_34 : decode zxm97.2.1 34 = .ok (.bipush 24, 2) := by decide +kernel
theorem zd97_36 : decode zxm97.2.1 36 = .ok (.if_icmp .ge 80, 3) := by decide +kernel
theorem zd97_39 : decode zxm97.2.1 39 = .ok (.iload_n 1, 1) := by decide +kernel
theorem zd97_40 : decode zxm97.2.1 40 = .ok (.iconst 1, 1) := by decide +kernel
theorem zd97_41 : decode zxm97.2.1 41 = .ok (.iadd, 1) := by decide +kernel
theorem zd97_42 : decode zxm97.2.1 42 = .ok (.istore_n 2, 1) := by decide +kernel
theorem zd97_43 : decode zxm97.2.1 43 = .ok (.iload_n 2, 1) := by decide +kernel
theorem zd97_44 : decode zxm97.2.1 44 = .ok (.bipush 24, 2) := by decide +kernel
theorem zd97_46 : decode zxm97.2.1 46 = .ok (.if_icmp .ge 64, 3) := by decide +kernel
theorem zd97_49 : decode zxm97.2.1 49 = .ok (.aload_n 0, 1) := by decide +kernel
theorem zd97_50 : decode zxm97.2.1 50 = .ok (.getfield 18, 3) := by decide +kernel
theorem zd97_53 : decode zxm97.2.1 53 = .ok (.iload_n 1, 1) := by decide +kernel
theorem zd97_54 : decode zxm97.2.1 54 = .ok (.ishr, 1) := by decide +kernel
theorem zd97_55 : decode zxm97.2.1 55 = .ok (.iconst 1, 1) := by decide +kernel
theorem zd97_56 : decode zxm97.2.1 56 = .ok (.iand, 1) := by decide +kernel
theorem zd97_57 : decode zxm97.2.1 57 = .ok (.ifCond .eq 53, 3) := by decide +kernel
theorem zd97_60 : decode zxm97.2.1 60 = .ok (.aload_n 0, 1) := by decide +kernel
theorem zd97_61 : decode zxm97.2.1 61 = .ok (.getfield 18, 3) := by decide +kernel
theorem zd97_64 : decode zxm97.2.1 64 = .ok (.iload_n 2, 1) := by decide +kernel
theorem zd97_65 : decode zxm97.2.1 65 = .ok (.ishr, 1) := by decide +kernel
theorem zd97_66 : decode zxm97.2.1 66 = .ok (.iconst 1, 1) := by decide +kernel
theorem zd97_67 : decode zxm97.2.1 67 = .ok (.iand, 1) := by decide +kernel
theorem zd97_68 : decode zxm97.2.1 68 = .ok (.ifCond .eq 36, 3) := by decide +kernel
theorem zd97_71 : decode zxm97.2.1 71 = .ok (.aload_n 0, 1) := by decide +kernel
theorem zd97_72 : decode zxm97.2.1 72 = .ok (.iload_n 1, 1) := by decide +kernel
theorem zd97_73 : decode zxm97.2.1 73 = .ok (.iload_n 2, 1) := by decide +kernel
theorem zd97_74 : decode zxm97.2.1 74 = .ok (.invokevirtual 118, 3) := by decide +kernel
theorem zd97_77 : decode zxm97.2.1 77 = .ok (.ifCond .eq 27, 3) := by decide +kernel
theorem zd97_80 : decode zxm97.2.1 80 = .ok (.aload_n 0, 1) := by decide +kernel
theorem zd97_81 : decode zxm97.2.1 81 = .ok (.getfield 21, 3) := by decide +kernel
theorem zd97_84 : decode zxm97.2.1 84 = .ok (.iload_n 1, 1) := by decide +kernel
theorem zd97_85 : decode zxm97.2.1 85 = .ok (.dup2, 1) := by decide +kernel
theorem zd97_86 : decode zxm97.2.1 86 = .ok (.iaload, 1) := by decide +kernel
theorem zd97_87 : decode zxm97.2.1 87 = .ok (.iconst 1, 1) := by decide +kernel
theorem zd97_88 : decode zxm97.2.1 88 = .ok (.iload_n 2, 1) := by decide +kernel
theorem zd97_89 : decode zxm97.2.1 89 = .ok (.ishl, 1) := by decide +kernel
theorem zd97_90 : decode zxm97.2.1 90 = .ok (.ior, 1) := by decide +kernel
theorem zd97_91 : decode zxm97.2.1 91 = .ok (.iastore, 1) := by decide +kernel
theorem zd97_92 : decode zxm97.2.1 92 = .ok (.aload_n 0, 1) := by decide +kernel
theorem zd97_93 : decode zxm97.2.1 93 = .ok (.getfield 21, 3) := by decide +kernel
theorem zd97_96 : decode zxm97.2.1 96 = .ok (.iload_n 2, 1) := by decide +kernel
theorem zd97_97 : decode zxm97.2.1 97 = .ok (.dup2, 1) := by decide +kernel
theorem zd97_98 : decode zxm97.2.1 98 = .ok (.iaload, 1) := by decide +kernel
theorem zd97_99 : decode zxm97.2.1 99 = .ok (.iconst 1, 1) := by decide +kernel
theorem zd97_100 : decode zxm97.2.1 100 = .ok (.iload_n 1, 1) := by decide +kernel
theorem zd97_101 : decode zxm97.2.1 101 = .ok (.ishl, 1) := by decide +kernel
theorem zd97_102 : decode zxm97.2.1 102 = .ok (.ior, 1) := by decide +kernel
theorem zd97_103 : decode zxm97.2.1 103 = .ok (.iastore, 1) := by decide +kernel
theorem zd97_104 : decode zxm97.2.1 104 = .ok (.iinc 2 1, 3) := by decide +kernel
theorem zd97_107 : decode zxm97.2.1 107 = .ok (.goto (-64), 3) := by decide +kernel
theorem zd97_110 : decode zxm97.2.1 110 = .ok (.iinc 1 1, 3) := by decide +kernel
theorem zd97_113 : decode zxm97.2.1 113 = .ok (.goto (-80), 3) := by decide +kernel
theorem zd97_116 : decode zxm97.2.1 116 = .ok (.return_, 1) := by decide +kernel
theorem zt_View_draw {f1 : Int} {f2 : Int} {f3 : Int} {f5 : Int} {f6 : Int} {f7 : Int} {f8 : Int} {f9 : Int} {f10 : Int} {g0 : (Int → Int)} {g1 : (Int → Int)} {g2 : (Int → Int)} {g3 : (Int → Int)} {g4 : (Int → Int)} {g5 : (Int → Int)} {g6 : (Int → Int)} {g7 : (Int → Int)} {g8 : (Int → Int)} {g9 : (Int → Int)} {g10 : (Int → Int)} {g11 : (Int → Int)} {g12 : (Int → Int)} {o : Int × Int × Int × (Int → Int) × (Int → Int) × (Int → Int) × (Int → Int) × (Int → Int)} (h : zf_View_draw f1 f2 f3 f5 f6 f7 f8 f9 f10 g0 g1 g2 g3 g4 g5 g6 g7 g8 g9 g10 g11 g12 = some o) : zv_Fn z_TB z_cl z_KX zy_View_draw zxm97 (4, 240) [.inr 0] [.inr 2, .inl f1, .inl f2, .inl f3, .inr 4, .inl f5, .inl f6, .inl f7, .inl f8, .inl f9, .inl f10] [g0, g1, g2, g3, g4, g5, g6, g7, g8, g9, g10, g11, g12] none [.inr 2, .inl f1, .inl o.1, .inl o.2.1, .inr 4, .inl f5, .inl f6, .inl f7, .inl f8, .inl o.2.2.1, .inl f10] [o.2.2.2.1, o.2.2.2.2.1, o.2.2.2.2.2.1, o.2.2.2.2.2.2.1, g4, g5, g6, g7, g8, g9, g10, o.2.2.2.2.2.2.2, g12] := zv_meth (K := (z_KF11, z_KC11, z_KL11, z_KT11, [], [], [], none)) (FT := z_FT) (MT := z_MT) (n := 1) zxp97 (z_ks11 _ (fun _ h => List.mem_cons_of_mem _ h) _ _ _ _ (fun j r h _ => by cases h)) (fun _ _ => zs_KX_p) zyw_View_draw (fun va F G h => by obtain ⟨rfl, _⟩ := h; rfl) (fun va F G h => by obtain ⟨rfl, _⟩ := h; rfl) rfl fun good va F G hB hret hvret hP => by
  obtain ⟨rfl, rfl, rfl⟩ := hP
  have l1 : ∀ (n : Nat) (x1 : Int) (x2 : Int) (f2 : Int) (f3 : Int) (f9 : Int) (g0 : (Int → Int)) (g1 : (Int → Int)) (g2 : (Int → Int)) (g3 : (Int → Int)) (g11 : (Int → Int)) (q : Int × (Int → Int) × (Int → Int) × (Int → Int) × (Int → Int) × (Int → Int)), zf_View_draw_l1 x1 f5 f7 f8 f10 g4 g5 g6 g7 g8 g9 g10 g12 n x2 f9 g0 g1 g2 g3 g11 = some q → (good 110 [.inr 0, .inl x1, .inr 1000] [] [.inr 2, .inl f1, .inl f2, .inl f3, .inr 4, .inl f5, .inl f6, .inl f7, .inl f8, .inl q.1, .inl f10] [q.2.1, q.2.2.1, q.2.2.2.1, q.2.2.2.2.1, g4, g5, g6, g7, g8, g9, g10, q.2.2.2.2.2, g12]) → good 43 [.inr 0, .inl x1, .inl x2] [] [.inr 2, .inl f1, .inl f2, .inl f3, .inr 4, .inl f5, .inl f6, .inl f7, .inl f8, .inl f9, .inl f10] [g0, g1, g2, g3, g4, g5, g6, g7, g8, g9, g10, g11, g12] := by
    intro n
    induction n with
    | zero => intro x1 x2 f2 f3 f9 g0 g1 g2 g3 g11 q h; exact absurd (show none = some q from h) (fun h => by cases h)
    | succ n ih =>
      intro x1 x2 f2 f3 f9 g0 g1 g2 g3 g11 q h hK
      replace h : zf_View_draw_l1_b x1 f5 f7 f8 f10 g4 g5 g6 g7 g8 g9 g10 g12 (zf_View_draw_l1 x1 f5 f7 f8 f10 g4 g5 g6 g7 g8 g9 g10 g12 n) x2 f9 g0 g1 g2 g3 g11 = some q := h
      unfold zf_View_draw_l1_b at h
      refine zv_ild hB zd97_43 rfl rfl ?_
      refine zv_con hB zd97_44 rfl ?_
      refine zv_cge hB zd97_46 rfl (fun hc5 => ?_) (fun hc5 => ?_)
      · rw [if_neg (Int.not_lt.mpr hc5)] at h
        have hq := Option.some.inj h
        subst hq
        refine zv_wk hB (L' := [.inr 0, .inl x1, .inr 1000]) (F' := [.inr 2, .inl f1, .inl f2, .inl f3, .inr 4, .inl f5, .inl f6, .inl f7, .inl f8, .inl f9, .inl f10]) ⟨fun _ => rfl, fun _ => rfl, fun (h : zv_is (.inr 1000)) => (Nat.lt_irrefl 1000 h).elim, trivial⟩ ⟨fun _ => rfl, fun _ => rfl, fun _ => rfl, fun _ => rfl, fun _ => rfl, fun _ => rfl, fun _ => rfl, fun _ => rfl, fun _ => rfl, fun _ => rfl, fun _ => rfl, trivial⟩ ?_
        exact hK
      · rw [if_pos hc5] at h
        refine zv_ald hB zd97_49 rfl rfl rfl ?_
        refine zv_getf hB zd97_50 rfl rfl (fun _ _ => ?_)
        refine zv_ild hB zd97_53 rfl rfl ?_
        refine zv_shrw hB zd97_54 ?_
        refine zv_con hB zd97_55 rfl ?_
        refine zv_andw hB zd97_56 ?_
        refine zv_zeq hB zd97_57 rfl (fun hc6 => ?_) (fun hc6 => ?_)
        · rw [if_pos hc6] at h
          have hq := Option.some.inj h
          subst hq
          refine zv_wk hB (L' := [.inr 0, .inl x1, .inr 1000]) (F' := [.inr 2, .inl f1, .inl f2, .inl f3, .inr 4, .inl f5, .inl f6, .inl f7, .inl f8, .inl f9, .inl f10]) ⟨fun _ => rfl, fun _ => rfl, fun (h : zv_is (.inr 1000)) => (Nat.lt_irrefl 1000 h).elim, trivial⟩ ⟨fun _ => rfl, fun _ => rfl, fun _ => rfl, fun _ => rfl, fun _ => rfl, fun _ => rfl, fun _ => rfl, fun _ => rfl, fun _ => rfl, fun _ => rfl, fun _ => rfl, trivial⟩ ?_
          exact hK
        · rw [if_neg hc6] at h
          refine zv_ald hB zd97_60 rfl rfl rfl ?_
          refine zv_getf hB zd97_61 rfl rfl (fun _ _ => ?_)
          refine zv_ild hB zd97_64 rfl rfl ?_
          refine zv_shrw hB zd97_65 ?_
          refine zv_con hB zd97_66 rfl ?_
          refine zv_andw hB zd97_67 ?_
          refine zv_zeq hB zd97_68 rfl (fun hc7 => ?_) (fun hc7 => ?_)
          · rw [if_pos hc7] at h
            refine zv_iincw hB zd97_104 rfl rfl ?_
            refine zv_goto hB zd97_107 rfl ?_
            exact ih _ _ _ _ _ _ _ _ _ _ q h hK
          · rw [if_neg hc7] at h
            refine zv_ald hB zd97_71 rfl rfl rfl ?_
            refine zv_ild hB zd97_72 rfl rfl ?_
            refine zv_ild hB zd97_73 rfl rfl ?_
            obtain ⟨r8, hr8, h⟩ := zi_bind h
            refine zv_cv hB (zv_emq (va2 := [.inr 0, .inl x1, .inl x2]) (F := [.inr 2, .inl f1, .inl f2, .inl f3, .inr 4, .inl f5, .inl f6, .inl f7, .inl f8, .inl f9, .inl f10]) (F' := [.inr 2, .inl f1, .inl f2, .inl f3, .inr 4, .inl f5, .inl f6, .inl f7, .inl f8, .inl r8.2.1, .inl f10]) (G := [g0, g1, g2, g3, g4, g5, g6, g7, g8, g9, g10, g11, g12]) (G' := [g0, r8.2.2.2.2.1, r8.2.2.1, r8.2.2.2.1, g4, g5, g6, g7, g8, g9, g10, r8.2.2.2.2.2, g12]) (ρ := [0, 5, 6, 2, 4, 3, 7, 8, 9, 10, 11, 12, 13, 14, 15]) (φ := [0, 4, 5, 8, 9, 10]) (ψ := [2, 3, 1, 4, 5, 6, 7, 8, 9, 10, 11, 12]) [some 0, none, none, none, some 1, some 2, none, none, some 3, some 4, some 5] [none, some 2, some 0, some 1, some 3, some 4, some 5, some 6, some 7, some 8, some 9, some 10, some 11] zyw_View_isDrawn zyw_View_draw zye_View_draw (by decide +kernel) (zt_View_isDrawn hr8) ⟨⟨_, rfl, fun _ => rfl⟩, ⟨_, rfl, fun _ => rfl⟩, ⟨_, rfl, fun _ => rfl⟩, ⟨_, rfl, fun _ => rfl⟩, ⟨_, rfl, fun _ => rfl⟩, ⟨_, rfl, fun _ => rfl⟩, trivial⟩ ⟨rfl, rfl, rfl, rfl, rfl, rfl, rfl, rfl, rfl, rfl, rfl, rfl, trivial⟩ rfl rfl rfl rfl rfl rfl rfl) zd97_74 zxt98 rfl (by decide) (by decide) rfl ?_
            refine zv_zeq hB zd97_77 rfl (fun hc9 => ?_) (fun hc9 => ?_)
            · rw [if_pos hc9] at h
              refine zv_iincw hB zd97_104 rfl rfl ?_
              refine zv_goto hB zd97_107 rfl ?_
              exact ih _ _ _ _ _ _ _ _ _ _ q h hK
            · rw [if_neg hc9] at h
              refine zv_ald hB zd97_80 rfl rfl rfl ?_
              refine zv_getr hB zd97_81 rfl ?_
              refine zv_ild hB zd97_84 rfl rfl ?_
              refine zv_dup2 hB zd97_85 rfl rfl ?_
              obtain ⟨c10, h⟩ := zi_if h
              refine zv_iald hB zd97_86 rfl rfl (zi_ix_ok c10).1 (zi_ix_ok c10).2 (fun _ _ => ?_)
              refine zv_con hB zd97_87 rfl ?_
              refine zv_ild hB zd97_88 rfl rfl ?_
              refine zv_shlw hB zd97_89 ?_
              refine zv_orw hB zd97_90 ?_
              refine zv_iast hB zd97_91 rfl rfl (zi_ix_ok c10).1 (zi_ix_ok c10).2 ?_
              refine zv_ald hB zd97_92 rfl rfl rfl ?_
              refine zv_getr hB zd97_93 rfl ?_
              refine zv_ild hB zd97_96 rfl rfl ?_
              refine zv_dup2 hB zd97_97 rfl rfl ?_
              obtain ⟨c11, h⟩ := zi_if h
              refine zv_iald hB zd97_98 rfl rfl (zi_ix_ok c11).1 (zi_ix_ok c11).2 (fun _ _ => ?_)
              refine zv_con hB zd97_99 rfl ?_
              refine zv_ild hB zd97_100 rfl rfl ?_
              refine zv_shlw hB zd97_101 ?_
              refine zv_orw hB zd97_102 ?_
              refine zv_iast hB zd97_103 rfl rfl (zi_ix_ok c11).1 (zi_ix_ok c11).2 ?_
              refine zv_iincw hB zd97_104 rfl rfl ?_
              refine zv_goto hB zd97_107 rfl ?_
              exact ih _ _ _ _ _ _ _ _ _ _ q h hK
  have l0 : ∀ (n : Nat) (x1 : Int) (f2 : Int) (f3 : Int) (f9 : Int) (g0 : (Int → Int)) (g1 : (Int → Int)) (g2 : (Int → Int)) (g3 : (Int → Int)) (g11 : (Int → Int)) (q : Int × (Int → Int) × (Int → Int) × (Int → Int) × (Int → Int) × (Int → Int)), zf_View_draw_l0 f5 f7 f8 f10 g4 g5 g6 g7 g8 g9 g10 g12 n x1 f9 g0 g1 g2 g3 g11 = some q → (good 116 [.inr 1000, .inr 1000, .inr 1000] [] [.inr 2, .inl f1, .inl f2, .inl f3, .inr 4, .inl f5, .inl f6, .inl f7, .inl f8, .inl q.1, .inl f10] [q.2.1, q.2.2.1, q.2.2.2.1, q.2.2.2.2.1, g4, g5, g6, g7, g8, g9, g10, q.2.2.2.2.2, g12]) → good 33 [.inr 0, .inl x1, .inr 1000] [] [.inr 2, .inl f1, .inl f2, .inl f3, .inr 4, .inl f5, .inl f6, .inl f7, .inl f8, .inl f9, .inl f10] [g0, g1, g2, g3, g4, g5, g6, g7, g8, g9, g10, g11, g12] := by
    intro n
    induction n with
    | zero => intro x1 f2 f3 f9 g0 g1 g2 g3 g11 q h; exact absurd (show none = some q from h) (fun h => by cases h)
    | succ n ih =>
      intro x1 f2 f3 f9 g0 g1 g2 g3 g11 q h hK
      replace h : zf_View_draw_l0_b f5 f7 f8 f10 g4 g5 g6 g7 g8 g9 g10 g12 (zf_View_draw_l0 f5 f7 f8 f10 g4 g5 g6 g7 g8 g9 g10 g12 n) x1 f9 g0 g1 g2 g3 g11 = some q := h
      unfold zf_View_draw_l0_b at h
      refine zv_ild hB zd97_33 rfl rfl ?_
      refine zv_con hB zd97_34 rfl ?_
      refine zv_cge hB zd97_36 rfl (fun hc4 => ?_) (fun hc4 => ?_)
      · rw [if_neg (Int.not_lt.mpr hc4)] at h
        have hq := Option.some.inj h
        subst hq
        refine zv_wk hB (L' := [.inr 1000, .inr 1000, .inr 1000]) (F' := [.inr 2, .inl f1, .inl f2, .inl f3, .inr 4, .inl f5, .inl f6, .inl f7, .inl f8, .inl f9, .inl f10]) ⟨fun (h : zv_is (.inr 1000)) => (Nat.lt_irrefl 1000 h).elim, fun (h : zv_is (.inr 1000)) => (Nat.lt_irrefl 1000 h).elim, fun (h : zv_is (.inr 1000)) => (Nat.lt_irrefl 1000 h).elim, trivial⟩ ⟨fun _ => rfl, fun _ => rfl, fun _ => rfl, fun _ => rfl, fun _ => rfl, fun _ => rfl, fun _ => rfl, fun _ => rfl, fun _ => rfl, fun _ => rfl, fun _ => rfl, trivial⟩ ?_
        exact hK
      · rw [if_pos hc4] at h
        refine zv_ild hB zd97_39 rfl rfl ?_
        refine zv_con hB zd97_40 rfl ?_
        refine zv_addw hB zd97_41 ?_
        refine zv_ist hB zd97_42 rfl rfl rfl ?_
        obtain ⟨q12, hq12, h⟩ := zi_bind h
        refine l1 _ _ _ _ _ _ _ _ _ _ _ q12 hq12 ?_
        show good 110 [.inr 0, .inl x1, .inr 1000] [] [.inr 2, .inl f1, .inl f2, .inl f3, .inr 4, .inl f5, .inl f6, .inl f7, .inl f8, .inl q12.1, .inl f10] [q12.2.1, q12.2.2.1, q12.2.2.2.1, q12.2.2.2.2.1, g4, g5, g6, g7, g8, g9, g10, q12.2.2.2.2.2, g12]
        refine zv_iincw hB zd97_110 rfl rfl ?_
        refine zv_goto hB zd97_113 rfl ?_
        exact ih _ _ _ _ _ _ _ _ _ q h hK
  unfold zf_View_draw at h
  refine zv_ald hB zd97_0 rfl rfl rfl ?_
  refine zv_getr hB zd97_1 rfl ?_
  refine zv_con hB zd97_4 rfl ?_
  obtain ⟨r1, hr1, h⟩ := zi_bind h
  refine zv_cs hB (zv_emq (va2 := [.inr 1, .inl 0]) (F := [.inr 2, .inl f1, .inl f2, .inl f3, .inr 4, .inl f5, .inl f6, .inl f7, .inl f8, .inl f9, .inl f10]) (F' := [.inr 2, .inl f1, .inl f2, .inl f3, .inr 4, .inl f5, .inl f6, .inl f7, .inl f8, .inl f9, .inl f10]) (G := [g0, g1, g2, g3, g4, g5, g6, g7, g8, g9, g10, g11, g12]) (G' := [r1, g1, g2, g3, g4, g5, g6, g7, g8, g9, g10, g11, g12]) (ρ := [1]) (φ := []) (ψ := [0]) [none, none, none, none, none, none, none, none, none, none, none] [some 0, none, none, none, none, none, none, none, none, none, none, none, none] zyw_Arrays_fill_24 zyw_View_draw zye_View_draw (by decide +kernel) (zt_Arrays_fill_24 hr1) trivial ⟨rfl, trivial⟩ rfl rfl rfl rfl rfl rfl rfl) zd97_5 zxt78 rfl (by decide) (by decide) rfl ?_
  refine zv_ald hB zd97_8 rfl rfl rfl ?_
  refine zv_getq hB zd97_9 rfl rfl rfl ?_
  refine zv_getf hB zd97_12 rfl rfl (fun _ _ => ?_)
  refine zv_zne hB zd97_15 rfl (fun hc2 => ?_) (fun hc2 => ?_)
  · rw [if_neg hc2] at h
    refine zv_ald hB zd97_19 rfl rfl rfl ?_
    refine zv_ald hB zd97_20 rfl rfl rfl ?_
    refine zv_getf hB zd97_21 rfl rfl (fun _ _ => ?_)
    refine zv_ald hB zd97_24 rfl rfl rfl ?_
    refine zv_getf hB zd97_25 rfl rfl (fun _ _ => ?_)
    obtain ⟨r3, hr3, h⟩ := zi_bind h
    refine zv_cv hB (zv_emq (va2 := [.inr 0, .inl f2, .inl f3]) (F := [.inr 2, .inl f1, .inl f2, .inl f3, .inr 4, .inl f5, .inl f6, .inl f7, .inl f8, .inl f9, .inl f10]) (F' := [.inr 2, .inl f1, .inl r3.1, .inl r3.2.1, .inr 4, .inl f5, .inl f6, .inl f7, .inl f8, .inl f9, .inl f10]) (G := [r1, g1, g2, g3, g4, g5, g6, g7, g8, g9, g10, g11, g12]) (G' := [r1, r3.2.2, g2, g3, g4, g5, g6, g7, g8, g9, g10, g11, g12]) (ρ := [0, 2, 3, 4]) (φ := [2, 3, 0, 4, 5, 6]) (ψ := [1]) [some 2, none, some 0, some 1, some 3, some 4, some 5, none, none, none, none] [none, some 0, none, none, none, none, none, none, none, none, none, none, none] zyw_View_goTo zyw_View_draw zye_View_draw (by decide +kernel) (zt_View_goTo hr3) ⟨⟨_, rfl, fun _ => rfl⟩, ⟨_, rfl, fun _ => rfl⟩, ⟨_, rfl, fun _ => rfl⟩, ⟨_, rfl, fun _ => rfl⟩, ⟨_, rfl, fun _ => rfl⟩, ⟨_, rfl, fun _ => rfl⟩, trivial⟩ ⟨rfl, trivial⟩ rfl rfl rfl rfl rfl rfl rfl) zd97_28 zxt86 rfl (by decide) (by decide) rfl ?_
    refine zv_con hB zd97_31 rfl ?_
    refine zv_ist hB zd97_32 rfl rfl rfl ?_
    obtain ⟨q13, hq13, h⟩ := zi_bind h
    refine l0 _ _ _ _ _ _ _ _ _ _ q13 hq13 ?_
    show good 116 [.inr 1000, .inr 1000, .inr 1000] [] [.inr 2, .inl f1, .inl r3.1, .inl r3.2.1, .inr 4, .inl f5, .inl f6, .inl f7, .inl f8, .inl q13.1, .inl f10] [q13.2.1, q13.2.2.1, q13.2.2.2.1, q13.2.2.2.2.1, g4, g5, g6, g7, g8, g9, g10, q13.2.2.2.2.2, g12]
    have hw := Option.some.inj h
    subst hw
    exact hvret _ _ _ _ zd97_116 trivial ⟨rfl, rfl, rfl⟩
  · rw [if_pos hc2] at h
    have hw := Option.some.inj h
    subst hw
    exact hvret _ _ _ _ zd97_18 trivial ⟨rfl, rfl, rfl⟩
end
section
/-! Methods as functions, and that they do what these do. -/
/-! X_lookAndDraw (LStarTales$View;II)V -/
-- names: 0 StarTales('arg', 0), 1 View('arg', 1), 2 Sky(0, 0, 0), 3 Law(0, 0, 7), 4 (0, 24)(1, 7, 8), 5 (0, 13)(3, 4, 12), 6 (0, 24)(2, 1, 1), 7 (0, 24)(2, 1, 2), 8 (0, 24)(2, 1, 3), 9 (0, 14)(3, 4, 3), 10 (0, 14)(3, 4, 5), 11 (0, 14)(3, 4, 6), 12 (0, 200)(3, 4, 0), 13 (0, 40)(3, 4, 13), 14 (0, 200)(3, 4, 1), 15 (0, 24)(1, 7, 5), 16 (0, 24)(1, 7, 9)
-- fields: f0 = 0.ruling_, f1 = 1.sky_, f2 = 1.law_, f3 = 1.starsAsked_, f4 = 1.x_, f5 = 1.y_, f6 = 2.hour_, f7 = 2.night_, f8 = 1.shown_, f9 = 2.told_, f10 = 2.sightColumns_, f11 = 2.sightRows_, f12 = 2.clouds_, f13 = 3.tellsSeen_, f14 = 1.starsHold_, f15 = 3.clauses_, f16 = 3.answer_, f17 = 3.seenByPlace_, f18 = 3.tellsLines_, f19 = 3.linesByPlace_; arrays: g0 = 4, g1 = 5, g2 = 6, g3 = 7, g4 = 8, g5 = 9, g6 = 10, g7 = 11, g8 = 12, g9 = 13, g10 = 14, g11 = 15, g12 = 16; out: [('f', 3), ('f', 4), ('f', 5), ('f', 8), ('f', 14), ('f', 16), ('g', 0), ('g', 1), ('g', 9), ('g', 11), ('g', 12)]
abbrev zy_X_lookAndDraw : zNL := (17, [(0, 0), (1, 7), (2, 1), (3, 4)], [(0, 0, 7, 0), (1, 7, 0, 1), (1, 7, 1, 2), (1, 7, 6, 3), (1, 7, 2, 4), (1, 7, 3, 5), (2, 1, 6, 6), (2, 1, 7, 7), (1, 7, 4, 8), (2, 1, 0, 9), (2, 1, 9, 10), (2, 1, 10, 11), (2, 1, 8, 12), (3, 4, 8, 13), (1, 7, 7, 14), (3, 4, 7, 15), (3, 4, 14, 16), (3, 4, 10, 17), (3, 4, 9, 18), (3, 4, 11, 19)], [(0, 0, 0, 2), (1, 7, 8, 4), (3, 4, 12, 5), (2, 1, 1, 6), (2, 1, 2, 7), (2, 1, 3, 8), (3, 4, 3, 9), (3, 4, 5, 10), (3, 4, 6, 11), (3, 4, 0, 12), (3, 4, 13, 13), (3, 4, 1, 14), (1, 7, 5, 15), (1, 7, 9, 16)], [(4, 0, 24, 0), (5, 0, 13, 1), (6, 0, 24, 2), (7, 0, 24, 3), (8, 0, 24, 4), (9, 0, 14, 5), (10, 0, 14, 6), (11, 0, 14, 7), (12, 0, 200, 8), (13, 0, 40, 9), (14, 0, 200, 10), (15, 0, 24, 11), (16, 0, 24, 12)])
theorem zyw_X_lookAndDraw : zv_wf zy_X_lookAndDraw = true := by decide +kernel
theorem zye_X_lookAndDraw : zv_ek2 zy_X_lookAndDraw = true := by decide +kernel
def zf_X_lookAndDraw (x2 : Int) (x3 : Int) (f3 : Int) (f4 : Int) (f5 : Int) (f6 : Int) (f7 : Int) (f8 : Int) (f9 : Int) (f10 : Int) (f11 : Int) (f12 : Int) (f13 : Int) (f14 : Int) (f15 : Int) (f16 : Int) (f17 : Int) (f18 : Int) (f19 : Int) (g0 : (Int → Int)) (g1 : (Int → Int)) (g2 : (Int → Int)) (g3 : (Int → Int)) (g4 : (Int → Int)) (g5 : (Int → Int)) (g6 : (Int → Int)) (g7 : (Int → Int)) (g8 : (Int → Int)) (g9 : (Int → Int)) (g10 : (Int → Int)) (g11 : (Int → Int)) (g12 : (Int → Int)) : Option (Int × Int × Int × Int × Int × Int × (Int → Int) × (Int → Int) × (Int → Int) × (Int → Int) × (Int → Int)) := (zf_View_open f3 g0).bind fun r1 => ((zf_View_look x2 x3 f4 f5 f6 f7 f8 f9 f10 f11 f12 f13 r1.1 f14 f15 f16 f17 g1 g2 g3 g4 g5 g6 g7 g8 g9 g10).bind fun r2 => ((zf_View_draw f18 r2.1 r2.2.1 f6 f7 r2.2.2.1 f15 r2.2.2.2.2.2.1 f19 g11 r2.2.2.2.2.2.2.1 r1.2 g12 g4 g3 g2 g5 g6 g7 g8 r2.2.2.2.2.2.2.2 g10).bind fun r3 => (some (r2.2.2.2.1, r3.1, r3.2.1, r2.2.2.1, r2.2.2.2.2.1, r3.2.2.1, r3.2.2.2.2.2.1, r3.2.2.2.2.1, r3.2.2.2.2.2.2.2, r3.2.2.2.1, r3.2.2.2.2.2.2.1))))
theorem zd96_0 : decode zxm96.2.1 0 = .ok (.aload_n 1, 1) := by decide +kernel
theorem zd96_1 : decode zxm96.2.1 1 = .ok (.aload_n 0, 1) := by decide +kernel
theorem zd96_2 : decode zxm96.2.1 2 = .ok (.getfield 10, 3) := by decide +kernel
theorem zd96_5 : decode zxm96.2.1 5 = .ok (.aload_n 0, 1) := by decide +kernel
theorem zd96_6 : decode zxm96.2.1 6 = .ok (.getfield 46, 3) := by decide +kernel
theorem zd96_9 : decode zxm96.2.1 9 = .ok (.invokevirtual 211, 3) := by decide +kernel
theorem zd96_12 : decode zxm96.2.1 12 = .ok (.aload_n 1, 1) := by decide +kernel
theorem zd96_13 : decode zxm96.2.1 13 = .ok (.iload_n 2, 1) := by decide +kernel
theorem zd96_14 : decode zxm96.2.1 14 = .ok (.iload_n 3, 1) := by decide +kernel
theorem zd96_15 : decode zxm96.2.1 15 = .ok (.invokevirtual 214, 3) := by decide +kernel
theorem zd96_18 : decode zxm96.2.1 18 = .ok (.aload_n 1, 1) := by decide +kernel
theorem zd96_19 : decode zxm96.2.1 19 = .ok (.invokevirtual 403, 3) := by decide +kernel
theorem zd96_22 : decode zxm96.2.1 22 = .ok (.return_, 1) := by decide +kernel
theorem zt_X_lookAndDraw {x2 : Int} {x3 : Int} {f3 : Int} {f4 : Int} {f5 : Int} {f6 : Int} {f7 : Int} {f8 : Int} {f9 : Int} {f10 : Int} {f11 : Int} {f12 : Int} {f13 : Int} {f14 : Int} {f15 : Int} {f16 : Int} {f17 : Int} {f18 : Int} {f19 : Int} {g0 : (Int → Int)} {g1 : (Int → Int)} {g2 : (Int → Int)} {g3 : (Int → Int)} {g4 : (Int → Int)} {g5 : (Int → Int)} {g6 : (Int → Int)} {g7 : (Int → Int)} {g8 : (Int → Int)} {g9 : (Int → Int)} {g10 : (Int → Int)} {g11 : (Int → Int)} {g12 : (Int → Int)} {o : Int × Int × Int × Int × Int × Int × (Int → Int) × (Int → Int) × (Int → Int) × (Int → Int) × (Int → Int)} (h : zf_X_lookAndDraw x2 x3 f3 f4 f5 f6 f7 f8 f9 f10 f11 f12 f13 f14 f15 f16 f17 f18 f19 g0 g1 g2 g3 g4 g5 g6 g7 g8 g9 g10 g11 g12 = some o) : zv_Fn z_TB z_cl z_KX zy_X_lookAndDraw zxm96 (5, 300) [.inr 0, .inr 1, .inl x2, .inl x3] [.inr 3, .inr 1000, .inr 1000, .inl f3, .inl f4, .inl f5, .inl f6, .inl f7, .inl f8, .inl f9, .inl f10, .inl f11, .inl f12, .inl f13, .inl f14, .inl f15, .inl f16, .inl f17, .inl f18, .inl f19] [g0, g1, g2, g3, g4, g5, g6, g7, g8, g9, g10, g11, g12] none [.inr 3, .inr 2, .inr 3, .inl o.1, .inl o.2.1, .inl o.2.2.1, .inl f6, .inl f7, .inl o.2.2.2.1, .inl f9, .inl f10, .inl f11, .inl f12, .inl f13, .inl o.2.2.2.2.1, .inl f15, .inl o.2.2.2.2.2.1, .inl f17, .inl f18, .inl f19] [o.2.2.2.2.2.2.1, o.2.2.2.2.2.2.2.1, g2, g3, g4, g5, g6, g7, g8, o.2.2.2.2.2.2.2.2.1, g10, o.2.2.2.2.2.2.2.2.2.1, o.2.2.2.2.2.2.2.2.2.2] := zv_meth (K := (z_KF0, z_KC0, z_KL0, z_KT0, [], [], [], none)) (FT := z_FT) (MT := z_MT) (n := 4) zxp96 (z_ks0 _ (fun _ h => List.mem_cons_of_mem _ h) _ _ _ _ (fun j r h _ => by cases h)) (fun _ _ => zs_KX_p) zyw_X_lookAndDraw (fun va F G h => by obtain ⟨rfl, _⟩ := h; rfl) (fun va F G h => by obtain ⟨rfl, _⟩ := h; rfl) rfl fun good va F G hB hret hvret hP => by
  obtain ⟨rfl, rfl, rfl⟩ := hP
  unfold zf_X_lookAndDraw at h
  refine zv_ald hB zd96_0 rfl rfl rfl ?_
  refine zv_ald hB zd96_1 rfl rfl rfl ?_
  refine zv_getr hB zd96_2 rfl ?_
  refine zv_ald hB zd96_5 rfl rfl rfl ?_
  refine zv_getq hB zd96_6 rfl rfl rfl ?_
  obtain ⟨r1, hr1, h⟩ := zi_bind h
  refine zv_cv hB (zv_emq (va2 := [.inr 1, .inr 2, .inr 3]) (F := [.inr 3, .inr 1000, .inr 1000, .inl f3, .inl f4, .inl f5, .inl f6, .inl f7, .inl f8, .inl f9, .inl f10, .inl f11, .inl f12, .inl f13, .inl f14, .inl f15, .inl f16, .inl f17, .inl f18, .inl f19]) (F' := [.inr 3, .inr 2, .inr 3, .inl r1.1, .inl f4, .inl f5, .inl f6, .inl f7, .inl f8, .inl f9, .inl f10, .inl f11, .inl f12, .inl f13, .inl f14, .inl f15, .inl f16, .inl f17, .inl f18, .inl f19]) (G := [g0, g1, g2, g3, g4, g5, g6, g7, g8, g9, g10, g11, g12]) (G' := [r1.2, g1, g2, g3, g4, g5, g6, g7, g8, g9, g10, g11, g12]) (ρ := [1, 2, 3, 4]) (φ := [1, 2, 3]) (ψ := [0]) [none, some 0, some 1, some 2, none, none, none, none, none, none, none, none, none, none, none, none, none, none, none, none] [some 0, none, none, none, none, none, none, none, none, none, none, none, none] zyw_View_open zyw_X_lookAndDraw zye_X_lookAndDraw (by decide +kernel) (zt_View_open hr1) ⟨⟨_, rfl, fun (h : zv_is (.inr 1000)) => (Nat.lt_irrefl 1000 h).elim⟩, ⟨_, rfl, fun (h : zv_is (.inr 1000)) => (Nat.lt_irrefl 1000 h).elim⟩, ⟨_, rfl, fun _ => rfl⟩, trivial⟩ ⟨rfl, trivial⟩ rfl rfl rfl rfl rfl rfl rfl) zd96_9 zxt84 rfl (by decide) (by decide) rfl ?_
  refine zv_ald hB zd96_12 rfl rfl rfl ?_
  refine zv_ild hB zd96_13 rfl rfl ?_
  refine zv_ild hB zd96_14 rfl rfl ?_
  obtain ⟨r2, hr2, h⟩ := zi_bind h
  refine zv_cv hB (zv_emq (va2 := [.inr 1, .inl x2, .inl x3]) (F := [.inr 3, .inr 2, .inr 3, .inl r1.1, .inl f4, .inl f5, .inl f6, .inl f7, .inl f8, .inl f9, .inl f10, .inl f11, .inl f12, .inl f13, .inl f14, .inl f15, .inl f16, .inl f17, .inl f18, .inl f19]) (F' := [.inr 3, .inr 2, .inr 3, .inl r2.2.2.2.1, .inl r2.1, .inl r2.2.1, .inl f6, .inl f7, .inl r2.2.2.1, .inl f9, .inl f10, .inl f11, .inl f12, .inl f13, .inl r2.2.2.2.2.1, .inl f15, .inl r2.2.2.2.2.2.1, .inl f17, .inl f18, .inl f19]) (G := [r1.2, g1, g2, g3, g4, g5, g6, g7, g8, g9, g10, g11, g12]) (G' := [r1.2, r2.2.2.2.2.2.2.1, g2, g3, g4, g5, g6, g7, g8, r2.2.2.2.2.2.2.2, g10, g11, g12]) (ρ := [1, 3, 5, 2, 6, 7, 8, 9, 10, 11, 12, 13, 14]) (φ := [2, 1, 4, 5, 6, 7, 8, 9, 10, 11, 12, 13, 3, 14, 15, 16, 17]) (ψ := [1, 2, 3, 4, 5, 6, 7, 8, 9, 10]) [none, some 1, some 0, some 12, some 2, some 3, some 4, some 5, some 6, some 7, some 8, some 9, some 10, some 11, some 13, some 14, some 15, some 16, none, none] [none, some 0, some 1, some 2, some 3, some 4, some 5, some 6, some 7, some 8, some 9, none, none] zyw_View_look zyw_X_lookAndDraw zye_X_lookAndDraw (by decide +kernel) (zt_View_look hr2) ⟨⟨_, rfl, fun _ => rfl⟩, ⟨_, rfl, fun _ => rfl⟩, ⟨_, rfl, fun _ => rfl⟩, ⟨_, rfl, fun _ => rfl⟩, ⟨_, rfl, fun _ => rfl⟩, ⟨_, rfl, fun _ => rfl⟩, ⟨_, rfl, fun _ => rfl⟩, ⟨_, rfl, fun _ => rfl⟩, ⟨_, rfl, fun _ => rfl⟩, ⟨_, rfl, fun _ => rfl⟩, ⟨_, rfl, fun _ => rfl⟩, ⟨_, rfl, fun _ => rfl⟩, ⟨_, rfl, fun _ => rfl⟩, ⟨_, rfl, fun _ => rfl⟩, ⟨_, rfl, fun _ => rfl⟩, ⟨_, rfl, fun _ => rfl⟩, ⟨_, rfl, fun _ => rfl⟩, trivial⟩ ⟨rfl, rfl, rfl, rfl, rfl, rfl, rfl, rfl, rfl, rfl, trivial⟩ rfl rfl rfl rfl rfl rfl rfl) zd96_15 zxt85 rfl (by decide) (by decide) rfl ?_
  refine zv_ald hB zd96_18 rfl rfl rfl ?_
  obtain ⟨r3, hr3, h⟩ := zi_bind h
  refine zv_cv hB (zv_emq (va2 := [.inr 1]) (F := [.inr 3, .inr 2, .inr 3, .inl r2.2.2.2.1, .inl r2.1, .inl r2.2.1, .inl f6, .inl f7, .inl r2.2.2.1, .inl f9, .inl f10, .inl f11, .inl f12, .inl f13, .inl r2.2.2.2.2.1, .inl f15, .inl r2.2.2.2.2.2.1, .inl f17, .inl f18, .inl f19]) (F' := [.inr 3, .inr 2, .inr 3, .inl r2.2.2.2.1, .inl r3.1, .inl r3.2.1, .inl f6, .inl f7, .inl r2.2.2.1, .inl f9, .inl f10, .inl f11, .inl f12, .inl f13, .inl r2.2.2.2.2.1, .inl f15, .inl r3.2.2.1, .inl f17, .inl f18, .inl f19]) (G := [r1.2, r2.2.2.2.2.2.2.1, g2, g3, g4, g5, g6, g7, g8, r2.2.2.2.2.2.2.2, g10, g11, g12]) (G' := [r3.2.2.2.2.2.1, r3.2.2.2.2.1, g2, g3, g4, g5, g6, g7, g8, r3.2.2.2.2.2.2.2, g10, r3.2.2.2.1, r3.2.2.2.2.2.2.1]) (ρ := [1, 15, 3, 5, 2, 4, 16, 8, 7, 6, 9, 10, 11, 12, 13, 14]) (φ := [2, 18, 4, 5, 1, 6, 7, 8, 15, 16, 19]) (ψ := [11, 1, 0, 12, 4, 3, 2, 5, 6, 7, 8, 9, 10]) [none, some 4, some 0, none, some 2, some 3, some 5, some 6, some 7, none, none, none, none, none, none, some 8, some 9, none, some 1, some 10] [some 2, some 1, some 6, some 5, some 4, some 7, some 8, some 9, some 10, some 11, some 12, some 0, some 3] zyw_View_draw zyw_X_lookAndDraw zye_X_lookAndDraw (by decide +kernel) (zt_View_draw hr3) ⟨⟨_, rfl, fun _ => rfl⟩, ⟨_, rfl, fun _ => rfl⟩, ⟨_, rfl, fun _ => rfl⟩, ⟨_, rfl, fun _ => rfl⟩, ⟨_, rfl, fun _ => rfl⟩, ⟨_, rfl, fun _ => rfl⟩, ⟨_, rfl, fun _ => rfl⟩, ⟨_, rfl, fun _ => rfl⟩, ⟨_, rfl, fun _ => rfl⟩, ⟨_, rfl, fun _ => rfl⟩, ⟨_, rfl, fun _ => rfl⟩, trivial⟩ ⟨rfl, rfl, rfl, rfl, rfl, rfl, rfl, rfl, rfl, rfl, rfl, rfl, rfl, trivial⟩ rfl rfl rfl rfl rfl rfl rfl) zd96_19 zxt97 rfl (by decide) (by decide) rfl ?_
  have hw := Option.some.inj h
  subst hw
  exact hvret _ _ _ _ zd96_22 trivial ⟨rfl, rfl, rfl⟩
/-! X_line (IIII)I -/
-- names: 0 StarTales('arg', 0), 1 Sky(0, 0, 0), 2 View(0, 0, 12), 3 Law(0, 0, 7), 4 (0, 24)(2, 7, 8), 5 (0, 13)(3, 4, 12), 6 (0, 24)(1, 1, 1), 7 (0, 24)(1, 1, 2), 8 (0, 24)(1, 1, 3), 9 (0, 14)(3, 4, 3), 10 (0, 14)(3, 4, 5), 11 (0, 14)(3, 4, 6), 12 (0, 200)(3, 4, 0), 13 (0, 40)(3, 4, 13), 14 (0, 200)(3, 4, 1), 15 (0, 24)(2, 7, 5), 16 (0, 24)(2, 7, 9)
-- fields: f0 = 1.told_, f1 = 0.ruling_, f2 = 2.sky_, f3 = 2.law_, f4 = 2.starsAsked_, f5 = 2.x_, f6 = 2.y_, f7 = 1.hour_, f8 = 1.night_, f9 = 2.shown_, f10 = 1.sightColumns_, f11 = 1.sightRows_, f12 = 1.clouds_, f13 = 3.tellsSeen_, f14 = 2.starsHold_, f15 = 3.clauses_, f16 = 3.answer_, f17 = 3.seenByPlace_, f18 = 3.tellsLines_, f19 = 3.linesByPlace_; arrays: g0 = 4, g1 = 5, g2 = 6, g3 = 7, g4 = 8, g5 = 9, g6 = 10, g7 = 11, g8 = 12, g9 = 13, g10 = 14, g11 = 15, g12 = 16; out: [('ret', None), ('f', 4), ('f', 5), ('f', 6), ('f', 9), ('f', 14), ('f', 16), ('g', 0), ('g', 1), ('g', 9), ('g', 11), ('g', 12)]
abbrev zy_X_line : zNL := (17, [(0, 0), (1, 1), (2, 7), (3, 4)], [(1, 1, 0, 0), (0, 0, 7, 1), (2, 7, 0, 2), (2, 7, 1, 3), (2, 7, 6, 4), (2, 7, 2, 5), (2, 7, 3, 6), (1, 1, 6, 7), (1, 1, 7, 8), (2, 7, 4, 9), (1, 1, 9, 10), (1, 1, 10, 11), (1, 1, 8, 12), (3, 4, 8, 13), (2, 7, 7, 14), (3, 4, 7, 15), (3, 4, 14, 16), (3, 4, 10, 17), (3, 4, 9, 18), (3, 4, 11, 19)], [(0, 0, 0, 1), (0, 0, 12, 2), (2, 7, 8, 4), (3, 4, 12, 5), (1, 1, 1, 6), (1, 1, 2, 7), (1, 1, 3, 8), (3, 4, 3, 9), (3, 4, 5, 10), (3, 4, 6, 11), (3, 4, 0, 12), (3, 4, 13, 13), (3, 4, 1, 14), (2, 7, 5, 15), (2, 7, 9, 16)], [(4, 0, 24, 0), (5, 0, 13, 1), (6, 0, 24, 2), (7, 0, 24, 3), (8, 0, 24, 4), (9, 0, 14, 5), (10, 0, 14, 6), (11, 0, 14, 7), (12, 0, 200, 8), (13, 0, 40, 9), (14, 0, 200, 10), (15, 0, 24, 11), (16, 0, 24, 12)])
theorem zyw_X_line : zv_wf zy_X_line = true := by decide +kernel
theorem zye_X_line : zv_ek2 zy_X_line = true := by decide +kernel
def zf_X_line (x1 : Int) (x2 : Int) (x3 : Int) (x4 : Int) (f0 : Int) (f4 : Int) (f5 : Int) (f6 : Int) (f7 : Int) (f8 : Int) (f9 : Int) (f10 : Int) (f11 : Int) (f12 : Int) (f13 : Int) (f14 : Int) (f15 : Int) (f16 : Int) (f17 : Int) (f18 : Int) (f19 : Int) (g0 : (Int → Int)) (g1 : (Int → Int)) (g2 : (Int → Int)) (g3 : (Int → Int)) (g4 : (Int → Int)) (g5 : (Int → Int)) (g6 : (Int → Int)) (g7 : (Int → Int)) (g8 : (Int → Int)) (g9 : (Int → Int)) (g10 : (Int → Int)) (g11 : (Int → Int)) (g12 : (Int → Int)) : Option (Int × Int × Int × Int × Int × Int × Int × (Int → Int) × (Int → Int) × (Int → Int) × (Int → Int) × (Int → Int)) := (zf_X_isPlace x1 x2).bind fun r1 => (if r1 = 0 then (some ((-1), f4, f5, f6, f9, f14, f16, g0, g1, g9, g11, g12)) else ((zf_Sky_hasStar x3 f0).bind fun r3 => (if r3 = 0 then (some ((-1), f4, f5, f6, f9, f14, f16, g0, g1, g9, g11, g12)) else ((zf_Sky_hasStar x4 f0).bind fun r5 => (if r5 = 0 then (some ((-1), f4, f5, f6, f9, f14, f16, g0, g1, g9, g11, g12)) else (if x3 = x4 then (some ((-1), f4, f5, f6, f9, f14, f16, g0, g1, g9, g11, g12)) else ((zf_X_lookAndDraw x1 x2 f4 f5 f6 f7 f8 f9 f0 f10 f11 f12 f13 f14 f15 f16 f17 f18 f19 g0 g1 g2 g3 g4 g5 g6 g7 g8 g9 g10 g11 g12).bind fun r8 => (cond (zi_ix x3 24) (some ((zi_and (zi_shr (r8.2.2.2.2.2.2.2.2.2.1 x3) x4) 1), r8.1, r8.2.1, r8.2.2.1, r8.2.2.2.1, r8.2.2.2.2.1, r8.2.2.2.2.2.1, r8.2.2.2.2.2.2.1, r8.2.2.2.2.2.2.2.1, r8.2.2.2.2.2.2.2.2.1, r8.2.2.2.2.2.2.2.2.2.1, r8.2.2.2.2.2.2.2.2.2.2)) none))))))))
theorem zd95_0 : decode zxm95.2.1 0 = .ok (.iload_n 1, 1) := by decide +kernel
theorem zd95_1 : decode zxm95.2.1 1 = .ok (.iload_n 2, 1) := by decide +kernel
theorem zd95_2 : decode zxm95.2.1 2 = .ok (.invokestatic 130, 3) := by decide +kernel
theorem zd95_5 : decode zxm95.2.1 5 = .ok (.ifCond .eq 32, 3) := by decide +kernel
theorem zd95_8 : decode zxm95.2.1 8 = .ok (.aload_n 0, 1) := by decide +kernel
theorem zd95_9 : decode zxm95.2.1 9 = .ok (.getfield 10, 3) := by decide +kernel
theorem zd95_12 : decode zxm95.2.1 12 = .ok (.iload_n 3, 1) := by decide +kernel
theorem zd95_13 : decode zxm95.2.1 13 = .ok (.invokevirtual 153, 3) := by decide +kernel
theorem zd95_16 : decode zxm95.2.1 16 = .ok (.ifCond .eq 21, 3) := by decide +kernel
theorem zd95_19 : decode zxm95.2.1 19 = .ok (.aload_n 0, 1) := by decide +kernel
theorem zd95_20 : decode zxm95.2.1 20 = .ok (.getfield 10, 3) := by decide +kernel
theorem zd95_23 : decode zxm95.2.1 23 = .ok (.iload 4, 2) := by decide +kernel
theorem zd95_25 : decode zxm95.2.1 25 = .ok (.invokevirtual 153, 3) := by decide +kernel
theorem zd95_28 : decode zxm95.2.1 28 = .ok (.ifCond .eq 9, 3) := by decide +kernel
theorem zd95_31 : decode zxm95.2.1 31 = .ok (.iload_n 3, 1) := by decide +kernel
theorem zd95_32 : decode zxm95.2.1 32 = .ok (.iload 4, 2) := by decide +kernel
theorem zd95_34 : decode zxm95.2.1 34 = .ok (.if_icmp .ne 5, 3) := by decide +kernel
theorem zd95_37 : decode zxm95.2.1 37 = .ok (.iconst (-1), 1) := by decide +kernel
theorem zd95_38 : decode zxm95.2.1 38 = .ok (.ireturn, 1) := by decide +kernel
theorem zd95_39 : decode zxm95.2.1 39 = .ok (.aload_n 0, 1) := by decide +kernel
theorem zd95_40 : decode zxm95.2.1 40 = .ok (.aload_n 0, 1) := by decide +kernel
theorem zd95_41 : decode zxm95.2.1 41 = .ok (.getfield 81, 3) := by decide +kernel
theorem zd95_44 : decode zxm95.2.1 44 = .ok (.iload_n 1, 1) := by decide +kernel
theorem zd95_45 : decode zxm95.2.1 45 = .ok (.iload_n 2, 1) := by decide +kernel
theorem zd95_46 : decode zxm95.2.1 46 = .ok (.invokevirtual 221, 3) := by decide +kernel
theorem zd95_49 : decode zxm95.2.1 49 = .ok (.aload_n 0, 1) := by decide +kernel
theorem zd95_50 : decode zxm95.2.1 50 = .ok (.getfield 81, 3) := by decide +kernel
theorem zd95_53 : decode zxm95.2.1 53 = .ok (.getfield 90, 3) := by decide +kernel
theorem zd95_56 : decode zxm95.2.1 56 = .ok (.iload_n 3, 1) := by decide +kernel
theorem zd95_57 : decode zxm95.2.1 57 = .ok (.iaload, 1) := by decide +kernel
theorem zd95_58 : decode zxm95.2.1 58 = .ok (.iload 4, 2) := by decide +kernel
theorem zd95_60 : decode zxm95.2.1 60 = .ok (.ishr, 1) := by decide +kernel
theorem zd95_61 : decode zxm95.2.1 61 = .ok (.iconst 1, 1) := by decide +kernel
theorem zd95_62 : decode zxm95.2.1 62 = .ok (.iand, 1) := by decide +kernel
theorem zd95_63 : decode zxm95.2.1 63 = .ok (.ireturn, 1) := by decide +kernel
theorem zt_X_line {x1 : Int} {x2 : Int} {x3 : Int} {x4 : Int} {f0 : Int} {f4 : Int} {f5 : Int} {f6 : Int} {f7 : Int} {f8 : Int} {f9 : Int} {f10 : Int} {f11 : Int} {f12 : Int} {f13 : Int} {f14 : Int} {f15 : Int} {f16 : Int} {f17 : Int} {f18 : Int} {f19 : Int} {g0 : (Int → Int)} {g1 : (Int → Int)} {g2 : (Int → Int)} {g3 : (Int → Int)} {g4 : (Int → Int)} {g5 : (Int → Int)} {g6 : (Int → Int)} {g7 : (Int → Int)} {g8 : (Int → Int)} {g9 : (Int → Int)} {g10 : (Int → Int)} {g11 : (Int → Int)} {g12 : (Int → Int)} {o : Int × Int × Int × Int × Int × Int × Int × (Int → Int) × (Int → Int) × (Int → Int) × (Int → Int) × (Int → Int)} (h : zf_X_line x1 x2 x3 x4 f0 f4 f5 f6 f7 f8 f9 f10 f11 f12 f13 f14 f15 f16 f17 f18 f19 g0 g1 g2 g3 g4 g5 g6 g7 g8 g9 g10 g11 g12 = some o) : zv_Fn z_TB z_cl z_KX zy_X_line zxm95 (6, 360) [.inr 0, .inl x1, .inl x2, .inl x3, .inl x4] [.inl f0, .inr 3, .inr 1000, .inr 1000, .inl f4, .inl f5, .inl f6, .inl f7, .inl f8, .inl f9, .inl f10, .inl f11, .inl f12, .inl f13, .inl f14, .inl f15, .inl f16, .inl f17, .inl f18, .inl f19] [g0, g1, g2, g3, g4, g5, g6, g7, g8, g9, g10, g11, g12] (some o.1) [.inl f0, .inr 3, .inr 1000, .inr 1000, .inl o.2.1, .inl o.2.2.1, .inl o.2.2.2.1, .inl f7, .inl f8, .inl o.2.2.2.2.1, .inl f10, .inl f11, .inl f12, .inl f13, .inl o.2.2.2.2.2.1, .inl f15, .inl o.2.2.2.2.2.2.1, .inl f17, .inl f18, .inl f19] [o.2.2.2.2.2.2.2.1, o.2.2.2.2.2.2.2.2.1, g2, g3, g4, g5, g6, g7, g8, o.2.2.2.2.2.2.2.2.2.1, g10, o.2.2.2.2.2.2.2.2.2.2.1, o.2.2.2.2.2.2.2.2.2.2.2] := zv_meth (K := (z_KF0, z_KC0, z_KL0, z_KT0, [], [], [], none)) (FT := z_FT) (MT := z_MT) (n := 5) zxp95 (z_ks0 _ (fun _ h => List.mem_cons_of_mem _ h) _ _ _ _ (fun j r h _ => by cases h)) (fun _ _ => zs_KX_p) zyw_X_line (fun va F G h => by obtain ⟨rfl, _⟩ := h; rfl) (fun va F G h => by obtain ⟨rfl, _⟩ := h; rfl) rfl fun good va F G hB hret hvret hP => by
  obtain ⟨rfl, rfl, rfl⟩ := hP
  unfold zf_X_line at h
  refine zv_ild hB zd95_0 rfl rfl ?_
  refine zv_ild hB zd95_1 rfl rfl ?_
  obtain ⟨r1, hr1, h⟩ := zi_bind h
  refine zv_cs hB (zv_emq (va2 := [.inl x1, .inl x2]) (F := [.inl f0, .inr 3, .inr 1000, .inr 1000, .inl f4, .inl f5, .inl f6, .inl f7, .inl f8, .inl f9, .inl f10, .inl f11, .inl f12, .inl f13, .inl f14, .inl f15, .inl f16, .inl f17, .inl f18, .inl f19]) (F' := [.inl f0, .inr 3, .inr 1000, .inr 1000, .inl f4, .inl f5, .inl f6, .inl f7, .inl f8, .inl f9, .inl f10, .inl f11, .inl f12, .inl f13, .inl f14, .inl f15, .inl f16, .inl f17, .inl f18, .inl f19]) (G := [g0, g1, g2, g3, g4, g5, g6, g7, g8, g9, g10, g11, g12]) (G' := [g0, g1, g2, g3, g4, g5, g6, g7, g8, g9, g10, g11, g12]) (ρ := []) (φ := []) (ψ := []) [none, none, none, none, none, none, none, none, none, none, none, none, none, none, none, none, none, none, none, none] [none, none, none, none, none, none, none, none, none, none, none, none, none] zyw_X_isPlace zyw_X_line zye_X_line (by decide +kernel) (zt_X_isPlace hr1) trivial trivial rfl rfl rfl rfl rfl rfl rfl) zd95_2 zxt16 rfl (by decide) (by decide) rfl ?_
  refine zv_zeq hB zd95_5 rfl (fun hc2 => ?_) (fun hc2 => ?_)
  · rw [if_pos hc2] at h
    refine zv_con hB zd95_37 rfl ?_
    have hw := Option.some.inj h
    subst hw
    exact hret _ _ _ _ _ zd95_38 (by trivial) ⟨rfl, rfl, rfl⟩
  · rw [if_neg hc2] at h
    refine zv_ald hB zd95_8 rfl rfl rfl ?_
    refine zv_getr hB zd95_9 rfl ?_
    refine zv_ild hB zd95_12 rfl rfl ?_
    obtain ⟨r3, hr3, h⟩ := zi_bind h
    refine zv_cv hB (zv_emq (va2 := [.inr 1, .inl x3]) (F := [.inl f0, .inr 3, .inr 1000, .inr 1000, .inl f4, .inl f5, .inl f6, .inl f7, .inl f8, .inl f9, .inl f10, .inl f11, .inl f12, .inl f13, .inl f14, .inl f15, .inl f16, .inl f17, .inl f18, .inl f19]) (F' := [.inl f0, .inr 3, .inr 1000, .inr 1000, .inl f4, .inl f5, .inl f6, .inl f7, .inl f8, .inl f9, .inl f10, .inl f11, .inl f12, .inl f13, .inl f14, .inl f15, .inl f16, .inl f17, .inl f18, .inl f19]) (G := [g0, g1, g2, g3, g4, g5, g6, g7, g8, g9, g10, g11, g12]) (G' := [g0, g1, g2, g3, g4, g5, g6, g7, g8, g9, g10, g11, g12]) (ρ := [1]) (φ := [0]) (ψ := []) [some 0, none, none, none, none, none, none, none, none, none, none, none, none, none, none, none, none, none, none, none] [none, none, none, none, none, none, none, none, none, none, none, none, none] zyw_Sky_hasStar zyw_X_line zye_X_line (by decide +kernel) (zt_Sky_hasStar hr3) ⟨⟨_, rfl, fun _ => rfl⟩, trivial⟩ trivial rfl rfl rfl rfl rfl rfl rfl) zd95_13 zxt18 rfl (by decide) (by decide) rfl ?_
    refine zv_zeq hB zd95_16 rfl (fun hc4 => ?_) (fun hc4 => ?_)
    · rw [if_pos hc4] at h
      refine zv_con hB zd95_37 rfl ?_
      have hw := Option.some.inj h
      subst hw
      exact hret _ _ _ _ _ zd95_38 (by trivial) ⟨rfl, rfl, rfl⟩
    · rw [if_neg hc4] at h
      refine zv_ald hB zd95_19 rfl rfl rfl ?_
      refine zv_getr hB zd95_20 rfl ?_
      refine zv_ild hB zd95_23 rfl rfl ?_
      obtain ⟨r5, hr5, h⟩ := zi_bind h
      refine zv_cv hB (zv_emq (va2 := [.inr 1, .inl x4]) (F := [.inl f0, .inr 3, .inr 1000, .inr 1000, .inl f4, .inl f5, .inl f6, .inl f7, .inl f8, .inl f9, .inl f10, .inl f11, .inl f12, .inl f13, .inl f14, .inl f15, .inl f16, .inl f17, .inl f18, .inl f19]) (F' := [.inl f0, .inr 3, .inr 1000, .inr 1000, .inl f4, .inl f5, .inl f6, .inl f7, .inl f8, .inl f9, .inl f10, .inl f11, .inl f12, .inl f13, .inl f14, .inl f15, .inl f16, .inl f17, .inl f18, .inl f19]) (G := [g0, g1, g2, g3, g4, g5, g6, g7, g8, g9, g10, g11, g12]) (G' := [g0, g1, g2, g3, g4, g5, g6, g7, g8, g9, g10, g11, g12]) (ρ := [1]) (φ := [0]) (ψ := []) [some 0, none, none, none, none, none, none, none, none, none, none, none, none, none, none, none, none, none, none, none] [none, none, none, none, none, none, none, none, none, none, none, none, none] zyw_Sky_hasStar zyw_X_line zye_X_line (by decide +kernel) (zt_Sky_hasStar hr5) ⟨⟨_, rfl, fun _ => rfl⟩, trivial⟩ trivial rfl rfl rfl rfl rfl rfl rfl) zd95_25 zxt18 rfl (by decide) (by decide) rfl ?_
      refine zv_zeq hB zd95_28 rfl (fun hc6 => ?_) (fun hc6 => ?_)
      · rw [if_pos hc6] at h
        refine zv_con hB zd95_37 rfl ?_
        have hw := Option.some.inj h
        subst hw
        exact hret _ _ _ _ _ zd95_38 (by trivial) ⟨rfl, rfl, rfl⟩
      · rw [if_neg hc6] at h
        refine zv_ild hB zd95_31 rfl rfl ?_
        refine zv_ild hB zd95_32 rfl rfl ?_
        refine zv_cne hB zd95_34 rfl (fun hc7 => ?_) (fun hc7 => ?_)
        · rw [if_neg hc7] at h
          refine zv_ald hB zd95_39 rfl rfl rfl ?_
          refine zv_ald hB zd95_40 rfl rfl rfl ?_
          refine zv_getr hB zd95_41 rfl ?_
          refine zv_ild hB zd95_44 rfl rfl ?_
          refine zv_ild hB zd95_45 rfl rfl ?_
          obtain ⟨r8, hr8, h⟩ := zi_bind h
          refine zv_cv hB (zv_emq (va2 := [.inr 0, .inr 2, .inl x1, .inl x2]) (F := [.inl f0, .inr 3, .inr 1000, .inr 1000, .inl f4, .inl f5, .inl f6, .inl f7, .inl f8, .inl f9, .inl f10, .inl f11, .inl f12, .inl f13, .inl f14, .inl f15, .inl f16, .inl f17, .inl f18, .inl f19]) (F' := [.inl f0, .inr 3, .inr 1, .inr 3, .inl r8.1, .inl r8.2.1, .inl r8.2.2.1, .inl f7, .inl f8, .inl r8.2.2.2.1, .inl f10, .inl f11, .inl f12, .inl f13, .inl r8.2.2.2.2.1, .inl f15, .inl r8.2.2.2.2.2.1, .inl f17, .inl f18, .inl f19]) (G := [g0, g1, g2, g3, g4, g5, g6, g7, g8, g9, g10, g11, g12]) (G' := [r8.2.2.2.2.2.2.1, r8.2.2.2.2.2.2.2.1, g2, g3, g4, g5, g6, g7, g8, r8.2.2.2.2.2.2.2.2.1, g10, r8.2.2.2.2.2.2.2.2.2.1, r8.2.2.2.2.2.2.2.2.2.2]) (ρ := [0, 2, 1, 3, 4, 5, 6, 7, 8, 9, 10, 11, 12, 13, 14, 15, 16]) (φ := [1, 2, 3, 4, 5, 6, 7, 8, 9, 0, 10, 11, 12, 13, 14, 15, 16, 17, 18, 19]) (ψ := [0, 1, 2, 3, 4, 5, 6, 7, 8, 9, 10, 11, 12]) [some 9, some 0, some 1, some 2, some 3, some 4, some 5, some 6, some 7, some 8, some 10, some 11, some 12, some 13, some 14, some 15, some 16, some 17, some 18, some 19] [some 0, some 1, some 2, some 3, some 4, some 5, some 6, some 7, some 8, some 9, some 10, some 11, some 12] zyw_X_lookAndDraw zyw_X_line zye_X_line (by decide +kernel) (zt_X_lookAndDraw hr8) ⟨⟨_, rfl, fun _ => rfl⟩, ⟨_, rfl, fun (h : zv_is (.inr 1000)) => (Nat.lt_irrefl 1000 h).elim⟩, ⟨_, rfl, fun (h : zv_is (.inr 1000)) => (Nat.lt_irrefl 1000 h).elim⟩, ⟨_, rfl, fun _ => rfl⟩, ⟨_, rfl, fun _ => rfl⟩, ⟨_, rfl, fun _ => rfl⟩, ⟨_, rfl, fun _ => rfl⟩, ⟨_, rfl, fun _ => rfl⟩, ⟨_, rfl, fun _ => rfl⟩, ⟨_, rfl, fun _ => rfl⟩, ⟨_, rfl, fun _ => rfl⟩, ⟨_, rfl, fun _ => rfl⟩, ⟨_, rfl, fun _ => rfl⟩, ⟨_, rfl, fun _ => rfl⟩, ⟨_, rfl, fun _ => rfl⟩, ⟨_, rfl, fun _ => rfl⟩, ⟨_, rfl, fun _ => rfl⟩, ⟨_, rfl, fun _ => rfl⟩, ⟨_, rfl, fun _ => rfl⟩, ⟨_, rfl, fun _ => rfl⟩, trivial⟩ ⟨rfl, rfl, rfl, rfl, rfl, rfl, rfl, rfl, rfl, rfl, rfl, rfl, rfl, trivial⟩ rfl rfl rfl rfl rfl rfl rfl) zd95_46 zxt96 rfl (by decide) (by decide) rfl ?_
          refine zv_ald hB zd95_49 rfl rfl rfl ?_
          refine zv_getr hB zd95_50 rfl ?_
          refine zv_getr hB zd95_53 rfl ?_
          refine zv_ild hB zd95_56 rfl rfl ?_
          obtain ⟨c9, h⟩ := zi_if h
          refine zv_iald hB zd95_57 rfl rfl (zi_ix_ok c9).1 (zi_ix_ok c9).2 (fun _ _ => ?_)
          refine zv_ild hB zd95_58 rfl rfl ?_
          refine zv_shrw hB zd95_60 ?_
          refine zv_con hB zd95_61 rfl ?_
          refine zv_andw hB zd95_62 ?_
          have hw := Option.some.inj h
          refine zv_wk hB (L' := [.inr 0, .inl x1, .inl x2, .inl x3, .inl x4]) (F' := [.inl f0, .inr 3, .inr 1000, .inr 1000, .inl r8.1, .inl r8.2.1, .inl r8.2.2.1, .inl f7, .inl f8, .inl r8.2.2.2.1, .inl f10, .inl f11, .inl f12, .inl f13, .inl r8.2.2.2.2.1, .inl f15, .inl r8.2.2.2.2.2.1, .inl f17, .inl f18, .inl f19]) ⟨fun _ => rfl, fun _ => rfl, fun _ => rfl, fun _ => rfl, fun _ => rfl, trivial⟩ ⟨fun _ => rfl, fun _ => rfl, fun (h : zv_is (.inr 1000)) => (Nat.lt_irrefl 1000 h).elim, fun (h : zv_is (.inr 1000)) => (Nat.lt_irrefl 1000 h).elim, fun _ => rfl, fun _ => rfl, fun _ => rfl, fun _ => rfl, fun _ => rfl, fun _ => rfl, fun _ => rfl, fun _ => rfl, fun _ => rfl, fun _ => rfl, fun _ => rfl, fun _ => rfl, fun _ => rfl, fun _ => rfl, fun _ => rfl, fun _ => rfl, trivial⟩ ?_
          subst hw
          exact hret _ _ _ _ _ zd95_63 (by trivial) ⟨rfl, rfl, rfl⟩
        · rw [if_pos hc7] at h
          refine zv_con hB zd95_37 rfl ?_
          have hw := Option.some.inj h
          subst hw
          exact hret _ _ _ _ _ zd95_38 (by trivial) ⟨rfl, rfl, rfl⟩
/-! Integer_bitCount (I)I -/
-- names: 
-- fields: ; arrays: ; out: [('ret', None)]
abbrev zy_Integer_bitCount : zNL := (0, [], [], [], [])
theorem zyw_Integer_bitCount : zv_wf zy_Integer_bitCount = true := by decide +kernel
theorem zye_Integer_bitCount : zv_ek2 zy_Integer_bitCount = true := by decide +kernel
def zf_Integer_bitCount (x0 : Int) : Option (Int) := zi_let (zi_w ((zi_and (zi_w (x0 - (zi_and (zi_ush x0 1) 1431655765))) 858993459) + (zi_and (zi_ush (zi_w (x0 - (zi_and (zi_ush x0 1) 1431655765))) 2) 858993459))) fun v1 => (zi_let (zi_w ((zi_w ((zi_and (zi_w (v1 + (zi_ush v1 4))) 252645135) + (zi_ush (zi_and (zi_w (v1 + (zi_ush v1 4))) 252645135) 8))) + (zi_ush (zi_w ((zi_and (zi_w (v1 + (zi_ush v1 4))) 252645135) + (zi_ush (zi_and (zi_w (v1 + (zi_ush v1 4))) 252645135) 8))) 16))) fun v2 => (some (zi_and v2 63)))
theorem zd102_0 : decode zxm102.2.1 0 = .ok (.iload_n 0, 1) := by decide +kernel
theorem zd102_1 : decode zxm102.2.1 1 = .ok (.iload_n 0, 1) := by decide +kernel
theorem zd102_2 : decode zxm102.2.1 2 = .ok (.iconst 1, 1) := by decide +kernel
theorem zd102_3 : decode zxm102.2.1 3 = .ok (.iushr, 1) := by decide +kernel
theorem zd102_4 : decode zxm102.2.1 4 = .ok (.ldc_w 265, 3) := by decide +kernel
theorem zd102_7 : decode zxm102.2.1 7 = .ok (.iand, 1) := by decide +kernel
theorem zd102_8 : decode zxm102.2.1 8 = .ok (.isub, 1) := by decide +kernel
theorem zd102_9 : decode zxm102.2.1 9 = .ok (.istore_n 0, 1) := by decide +kernel
theorem zd102_10 : decode zxm102.2.1 10 = .ok (.iload_n 0, 1) := by decide +kernel
theorem zd102_11 : decode zxm102.2.1 11 = .ok (.ldc_w 266, 3) := by decide +kernel
theorem zd102_14 : decode zxm102.2.1 14 = .ok (.iand, 1) := by decide +kernel
theorem zd102_15 : decode zxm102.2.1 15 = .ok (.iload_n 0, 1) := by decide +kernel
theorem zd102_16 : decode zxm102.2.1 16 = .ok (.iconst 2, 1) := by decide +kernel
theorem zd102_17 : decode zxm102.2.1 17 = .ok (.iushr, 1) := by decide +kernel
theorem zd102_18 : decode zxm102.2.1 18 = .ok (.ldc_w 266, 3) := by decide +kernel
theorem zd102_21 : decode zxm102.2.1 21 = .ok (.iand, 1) := by decide +kernel
theorem zd102_22 : decode zxm102.2.1 22 = .ok (.iadd, 1) := by decide +kernel
theorem zd102_23 : decode zxm102.2.1 23 = .ok (.istore_n 0, 1) := by decide +kernel
theorem zd102_24 : decode zxm102.2.1 24 = .ok (.iload_n 0, 1) := by decide +kernel
theorem zd102_25 : decode zxm102.2.1 25 = .ok (.iload_n 0, 1) := by decide +kernel
theorem zd102_26 : decode zxm102.2.1 26 = .ok (.iconst 4, 1) := by decide +kernel
theorem zd102_27 : decode zxm102.2.1 27 = .ok (.iushr, 1) := by decide +kernel
theorem zd102_28 : decode zxm102.2.1 28 = .ok (.iadd, 1) := by decide +kernel
theorem zd102_29 : decode zxm102.2.1 29 = .ok (.ldc_w 267, 3) := by decide +kernel
theorem zd102_32 : decode zxm102.2.1 32 = .ok (.iand, 1) := by decide +kernel
theorem zd102_33 : decode zxm102.2.1 33 = .ok (.istore_n 0, 1) := by decide +kernel
theorem zd102_34 : decode zxm102.2.1 34 = .ok (.iload_n 0, 1) := by decide +kernel
theorem zd102_35 : decode zxm102.2.1 35 = .ok (.iload_n 0, 1) := by decide +kernel
theorem zd102_36 : decode zxm102.2.1 36 = .ok (.bipush 8, 2) := by decide +kernel
theorem zd102_38 : decode zxm102.2.1 38 = .ok (.iushr, 1) := by decide +kernel
theorem zd102_39 : decode zxm102.2.1 39 = .ok (.iadd, 1) := by decide +kernel
theorem zd102_40 : decode zxm102.2.1 40 = .ok (.istore_n 0, 1) := by decide +kernel
theorem zd102_41 : decode zxm102.2.1 41 = .ok (.iload_n 0, 1) := by decide +kernel
theorem zd102_42 : decode zxm102.2.1 42 = .ok (.iload_n 0, 1) := by decide +kernel
theorem zd102_43 : decode zxm102.2.1 43 = .ok (.bipush 16, 2) := by decide +kernel
theorem zd102_45 : decode zxm102.2.1 45 = .ok (.iushr, 1) := by decide +kernel
theorem zd102_46 : decode zxm102.2.1 46 = .ok (.iadd, 1) := by decide +kernel
theorem zd102_47 : decode zxm102.2.1 47 = .ok (.istore_n 0, 1) := by decide +kernel
theorem zd102_48 : decode zxm102.2.1 48 = .ok (.iload_n 0, 1) := by decide +kernel
theorem zd102_49 : decode zxm102.2.1 49 = .ok (.bipush 63, 2) := by decide +kernel
theorem zd102_51 : decode zxm102.2.1 51 = .ok (.iand, 1) := by decide +kernel
theorem zd102_52 : decode zxm102.2.1 52 = .ok (.ireturn, 1) := by decide +kernel
theorem zt_Integer_bitCount {x0 : Int} {o : Int} (h : zf_Integer_bitCount x0 = some o) : zv_Fn z_TB z_cl z_KX zy_Integer_bitCount zxm102 (0, 0) [.inl x0] [] [] (some o) [] [] := zv_meth (K := (z_KF15, z_KC15, z_KL15, z_KT15, [], [], [], none)) (FT := z_FT) (MT := z_MT) (n := 1) zxp102 (z_ks15 _ (fun _ h => List.mem_cons_of_mem _ h) _ _ _ _ (fun j r h _ => by cases h)) (fun _ _ => zs_KX_p) zyw_Integer_bitCount (fun va F G h => by obtain ⟨rfl, _⟩ := h; rfl) (fun va F G h => by obtain ⟨rfl, _⟩ := h; rfl) rfl fun good va F G hB hret hvret hP => by
  obtain ⟨rfl, rfl, rfl⟩ := hP
  unfold zf_Integer_bitCount at h
  refine zv_ild hB zd102_0 rfl rfl ?_
  refine zv_ild hB zd102_1 rfl rfl ?_
  refine zv_con hB zd102_2 rfl ?_
  refine zv_ushw hB zd102_3 ?_
  refine zv_con (n := 1431655765) hB zd102_4 (by decide +kernel) ?_
  refine zv_andw hB zd102_7 ?_
  refine zv_subw hB zd102_8 ?_
  refine zv_ist hB zd102_9 rfl rfl rfl ?_
  refine zv_ild hB zd102_10 rfl rfl ?_
  refine zv_con (n := 858993459) hB zd102_11 (by decide +kernel) ?_
  refine zv_andw hB zd102_14 ?_
  refine zv_ild hB zd102_15 rfl rfl ?_
  refine zv_con hB zd102_16 rfl ?_
  refine zv_ushw hB zd102_17 ?_
  refine zv_con (n := 858993459) hB zd102_18 (by decide +kernel) ?_
  refine zv_andw hB zd102_21 ?_
  refine zv_addw hB zd102_22 ?_
  refine zv_ist hB zd102_23 rfl rfl rfl ?_
  obtain ⟨v1, hv1, h⟩ := zi_letp h
  rw [hv1]
  refine zv_ild hB zd102_24 rfl rfl ?_
  refine zv_ild hB zd102_25 rfl rfl ?_
  refine zv_con hB zd102_26 rfl ?_
  refine zv_ushw hB zd102_27 ?_
  refine zv_addw hB zd102_28 ?_
  refine zv_con (n := 252645135) hB zd102_29 (by decide +kernel) ?_
  refine zv_andw hB zd102_32 ?_
  refine zv_ist hB zd102_33 rfl rfl rfl ?_
  refine zv_ild hB zd102_34 rfl rfl ?_
  refine zv_ild hB zd102_35 rfl rfl ?_
  refine zv_con hB zd102_36 rfl ?_
  refine zv_ushw hB zd102_38 ?_
  refine zv_addw hB zd102_39 ?_
  refine zv_ist hB zd102_40 rfl rfl rfl ?_
  refine zv_ild hB zd102_41 rfl rfl ?_
  refine zv_ild hB zd102_42 rfl rfl ?_
  refine zv_con hB zd102_43 rfl ?_
  refine zv_ushw hB zd102_45 ?_
  refine zv_addw hB zd102_46 ?_
  refine zv_ist hB zd102_47 rfl rfl rfl ?_
  obtain ⟨v2, hv2, h⟩ := zi_letp h
  rw [hv2]
  refine zv_ild hB zd102_48 rfl rfl ?_
  refine zv_con hB zd102_49 rfl ?_
  refine zv_andw hB zd102_51 ?_
  have hw := Option.some.inj h
  subst hw
  exact hret _ _ _ _ _ zd102_52 (by trivial) ⟨rfl, rfl, rfl⟩
/-! View_countLines ()I -/
-- names: 0 View('arg', 0), 1 (0, 24)(0, 7, 5)
-- fields: ; arrays: g0 = 1; out: [('ret', None)]
abbrev zy_View_countLines : zNL := (2, [(0, 7)], [], [(0, 7, 5, 1)], [(1, 0, 24, 0)])
theorem zyw_View_countLines : zv_wf zy_View_countLines = true := by decide +kernel
theorem zye_View_countLines : zv_ek2 zy_View_countLines = true := by decide +kernel
def zf_View_countLines_l0_b (g0 : (Int → Int)) (rec : Int → Int → Option (Int)) (x1 : Int) (x2 : Int) : Option (Int) := if x2 < 24 then (cond (zi_ix x2 24) ((zf_Integer_bitCount (g0 x2)).bind fun r3 => (rec (zi_w (x1 + r3)) (zi_w (x2 + 1)))) none) else (some x1)
def zf_View_countLines_l0 (g0 : (Int → Int)) : Nat → Int → Int → Option (Int)
  | 0, _, _ => none
  | n + 1, x1, x2 => zf_View_countLines_l0_b g0 (zf_View_countLines_l0 g0 n) x1 x2
def zf_View_countLines (g0 : (Int → Int)) : Option (Int) := (zf_View_countLines_l0 g0 zi_fu 0 0).bind fun q4 => (some (zi_div q4 2))
theorem zd101_0 : decode zxm101.2.1 0 = .ok (.iconst 0, 1) := by decide +kernel
theorem zd101_1 : decode zxm101.2.1 1 = .ok (.istore_n 1, 1) := by decide +kernel
theorem zd101_2 : decode zxm101.2.1 2 = .ok (.iconst 0, 1) := by decide +kernel
theorem zd101_3 : decode zxm101.2.1 3 = .ok (.istore_n 2, 1) := by decide +kernel
theorem zd101_4 : decode zxm101.2.1 4 = .ok (.iload_n 2, 1) := by decide +kernel
theorem zd101_5 : decode zxm101.2.1 5 = .ok (.bipush 24, 2) := by decide +kernel
theorem zd101_7 : decode zxm101.2.1 7 = .ok (.if_icmp .ge 21, 3) := by decide +kernel
theorem zd101_10 : decode zxm101.2.1 10 = .ok (.iload_n 1, 1) := by decide +kernel
theorem zd101_11 : decode zxm101.2.1 11 = .ok (.aload_n 0, 1) := by decide +kernel
theorem zd101_12 : decode zxm101.2.1 12 = .ok (.getfield 21, 3) := by decide +kernel
theorem zd101_15 : decode zxm101.2.1 15 = .ok (.iload_n 2, 1) := by decide +kernel
theorem zd101_16 : decode zxm101.2.1 16 = .ok (.iaload, 1) := by decide +kernel
theorem zd101_17 : decode zxm101.2.1 17 = .ok (.invokestatic 131, 3) := by decide +kernel
theorem zd101_20 : decode zxm101.2.1 20 = .ok (.iadd, 1) := by decide +kernel
theorem zd101_21 : decode zxm101.2.1 21 = .ok (.istore_n 1, 1) := by decide +kernel
theorem zd101_22 : decode zxm101.2.1 22 = .ok (.iinc 2 1, 3) := by decide +kernel
theorem zd101_25 : decode zxm101.2.1 25 = .ok (.goto (-21), 3) := by decide +kernel
theorem zd101_28 : decode zxm101.2.1 28 = .ok (.iload_n 1, 1) := by decide +kernel
theorem zd101_29 : decode zxm101.2.1 29 = .ok (.iconst 2, 1) := by decide +kernel
theorem zd101_30 : decode zxm101.2.1 30 = .ok (.idiv, 1) := by decide +kernel
theorem zd101_31 : decode zxm101.2.1 31 = .ok (.ireturn, 1) := by decide +kernel
theorem zt_View_countLines {g0 : (Int → Int)} {o : Int} (h : zf_View_countLines g0 = some o) : zv_Fn z_TB z_cl z_KX zy_View_countLines zxm101 (1, 60) [.inr 0] [] [g0] (some o) [] [g0] := zv_meth (K := (z_KF11, z_KC11, z_KL11, z_KT11, [], [], [], none)) (FT := z_FT) (MT := z_MT) (n := 1) zxp101 (z_ks11 _ (fun _ h => List.mem_cons_of_mem _ h) _ _ _ _ (fun j r h _ => by cases h)) (fun _ _ => zs_KX_p) zyw_View_countLines (fun va F G h => by obtain ⟨rfl, _⟩ := h; rfl) (fun va F G h => by obtain ⟨rfl, _⟩ := h; rfl) rfl fun good va F G hB hret hvret hP => by
  obtain ⟨rfl, rfl, rfl⟩ := hP
  have l0 : ∀ (n : Nat) (x1 : Int) (x2 : Int) (q : Int), zf_View_countLines_l0 g0 n x1 x2 = some q → (good 28 [.inr 1000, .inl q, .inr 1000] [] [] [g0]) → good 4 [.inr 0, .inl x1, .inl x2] [] [] [g0] := by
    intro n
    induction n with
    | zero => intro x1 x2 q h; exact absurd (show none = some q from h) (fun h => by cases h)
    | succ n ih =>
      intro x1 x2 q h hK
      replace h : zf_View_countLines_l0_b g0 (zf_View_countLines_l0 g0 n) x1 x2 = some q := h
      unfold zf_View_countLines_l0_b at h
      refine zv_ild hB zd101_4 rfl rfl ?_
      refine zv_con hB zd101_5 rfl ?_
      refine zv_cge hB zd101_7 rfl (fun hc1 => ?_) (fun hc1 => ?_)
      · rw [if_neg (Int.not_lt.mpr hc1)] at h
        have hq := Option.some.inj h
        subst hq
        refine zv_wk hB (L' := [.inr 1000, .inl x1, .inr 1000]) (F' := []) ⟨fun (h : zv_is (.inr 1000)) => (Nat.lt_irrefl 1000 h).elim, fun _ => rfl, fun (h : zv_is (.inr 1000)) => (Nat.lt_irrefl 1000 h).elim, trivial⟩ trivial ?_
        exact hK
      · rw [if_pos hc1] at h
        refine zv_ild hB zd101_10 rfl rfl ?_
        refine zv_ald hB zd101_11 rfl rfl rfl ?_
        refine zv_getr hB zd101_12 rfl ?_
        refine zv_ild hB zd101_15 rfl rfl ?_
        obtain ⟨c2, h⟩ := zi_if h
        refine zv_iald hB zd101_16 rfl rfl (zi_ix_ok c2).1 (zi_ix_ok c2).2 (fun _ _ => ?_)
        obtain ⟨r3, hr3, h⟩ := zi_bind h
        refine zv_cs hB (zv_emq (va2 := [.inl (g0 x2)]) (F := []) (F' := []) (G := [g0]) (G' := [g0]) (ρ := []) (φ := []) (ψ := []) [] [none] zyw_Integer_bitCount zyw_View_countLines zye_View_countLines (by decide +kernel) (zt_Integer_bitCount hr3) trivial trivial rfl rfl rfl rfl rfl rfl rfl) zd101_17 zxt102 rfl (by decide) (by decide) rfl ?_
        refine zv_addw hB zd101_20 ?_
        refine zv_ist hB zd101_21 rfl rfl rfl ?_
        refine zv_iincw hB zd101_22 rfl rfl ?_
        refine zv_goto hB zd101_25 rfl ?_
        exact ih _ _ q h hK
  unfold zf_View_countLines at h
  refine zv_con hB zd101_0 rfl ?_
  refine zv_ist hB zd101_1 rfl rfl rfl ?_
  refine zv_con hB zd101_2 rfl ?_
  refine zv_ist hB zd101_3 rfl rfl rfl ?_
  obtain ⟨q4, hq4, h⟩ := zi_bind h
  refine l0 _ _ _ q4 hq4 ?_
  show good 28 [.inr 1000, .inl q4, .inr 1000] [] [] [g0]
  refine zv_ild hB zd101_28 rfl rfl ?_
  refine zv_con hB zd101_29 rfl ?_
  refine zv_divw hB zd101_30 (by decide) ?_
  have hw := Option.some.inj h
  subst hw
  exact hret _ _ _ _ _ zd101_31 (by trivial) ⟨rfl, rfl, rfl⟩
/-! X_lowestOf (I)I -/
-- names: 
-- fields: ; arrays: ; out: [('ret', None)]
abbrev zy_X_lowestOf : zNL := (0, [], [], [], [])
theorem zyw_X_lowestOf : zv_wf zy_X_lowestOf = true := by decide +kernel
theorem zye_X_lowestOf : zv_ek2 zy_X_lowestOf = true := by decide +kernel
def zf_X_lowestOf (x0 : Int) : Option (Int) := (zf_Integer_bitCount (zi_w ((zi_and x0 (zi_w (-x0))) - 1))).bind fun r1 => (some r1)
theorem zd105_0 : decode zxm105.2.1 0 = .ok (.iload_n 0, 1) := by decide +kernel
theorem zd105_1 : decode zxm105.2.1 1 = .ok (.iload_n 0, 1) := by decide +kernel
theorem zd105_2 : decode zxm105.2.1 2 = .ok (.ineg, 1) := by decide +kernel
theorem zd105_3 : decode zxm105.2.1 3 = .ok (.iand, 1) := by decide +kernel
theorem zd105_4 : decode zxm105.2.1 4 = .ok (.iconst 1, 1) := by decide +kernel
theorem zd105_5 : decode zxm105.2.1 5 = .ok (.isub, 1) := by decide +kernel
theorem zd105_6 : decode zxm105.2.1 6 = .ok (.invokestatic 235, 3) := by decide +kernel
theorem zd105_9 : decode zxm105.2.1 9 = .ok (.ireturn, 1) := by decide +kernel
theorem zt_X_lowestOf {x0 : Int} {o : Int} (h : zf_X_lowestOf x0 = some o) : zv_Fn z_TB z_cl z_KX zy_X_lowestOf zxm105 (1, 60) [.inl x0] [] [] (some o) [] [] := zv_meth (K := (z_KF0, z_KC0, z_KL0, z_KT0, [], [], [], none)) (FT := z_FT) (MT := z_MT) (n := 1) zxp105 (z_ks0 _ (fun _ h => List.mem_cons_of_mem _ h) _ _ _ _ (fun j r h _ => by cases h)) (fun _ _ => zs_KX_p) zyw_X_lowestOf (fun va F G h => by obtain ⟨rfl, _⟩ := h; rfl) (fun va F G h => by obtain ⟨rfl, _⟩ := h; rfl) rfl fun good va F G hB hret hvret hP => by
  obtain ⟨rfl, rfl, rfl⟩ := hP
  unfold zf_X_lowestOf at h
  refine zv_ild hB zd105_0 rfl rfl ?_
  refine zv_ild hB zd105_1 rfl rfl ?_
  refine zv_negw hB zd105_2 ?_
  refine zv_andw hB zd105_3 ?_
  refine zv_con hB zd105_4 rfl ?_
  refine zv_subw hB zd105_5 ?_
  obtain ⟨r1, hr1, h⟩ := zi_bind h
  refine zv_cs hB (zv_emq (va2 := [.inl (zi_w ((zi_and x0 (zi_w (-x0))) - 1))]) (F := []) (F' := []) (G := []) (G' := []) (ρ := []) (φ := []) (ψ := []) [] [] zyw_Integer_bitCount zyw_X_lowestOf zye_X_lowestOf (by decide +kernel) (zt_Integer_bitCount hr1) trivial trivial rfl rfl rfl rfl rfl rfl rfl) zd105_6 zxt102 rfl (by decide) (by decide) rfl ?_
  have hw := Option.some.inj h
  subst hw
  exact hret _ _ _ _ _ zd105_9 (by trivial) ⟨rfl, rfl, rfl⟩
/-! View_reach (III)I -/
-- names: 0 View('arg', 0), 1 (0, 24)(0, 7, 5)
-- fields: ; arrays: g0 = 1; out: [('ret', None)]
abbrev zy_View_reach : zNL := (2, [(0, 7)], [], [(0, 7, 5, 1)], [(1, 0, 24, 0)])
theorem zyw_View_reach : zv_wf zy_View_reach = true := by decide +kernel
theorem zye_View_reach : zv_ek2 zy_View_reach = true := by decide +kernel
def zf_View_reach_l0_b (x2 : Int) (x3 : Int) (g0 : (Int → Int)) (rec : Int → Int → Int → Option (Int)) (x4 : Int) (x5 : Int) (x6 : Int) : Option (Int) := if x6 < 24 then (if x5 = 0 then (some x4) else ((zf_X_lowestOf x5).bind fun r3 => (cond (zi_ix r3 24) (if r3 = x2 then (rec (zi_or x4 (zi_and (g0 r3) (zi_xor (zi_shl 1 x3) (-1)))) (zi_and (zi_or x5 (zi_and (zi_and (g0 r3) (zi_xor (zi_shl 1 x3) (-1))) (zi_xor x4 (-1)))) (zi_xor (zi_shl 1 r3) (-1))) (zi_w (x6 + 1))) else (if r3 = x3 then (rec (zi_or x4 (zi_and (g0 r3) (zi_xor (zi_shl 1 x2) (-1)))) (zi_and (zi_or x5 (zi_and (zi_and (g0 r3) (zi_xor (zi_shl 1 x2) (-1))) (zi_xor x4 (-1)))) (zi_xor (zi_shl 1 r3) (-1))) (zi_w (x6 + 1))) else (rec (zi_or x4 (g0 r3)) (zi_and (zi_or x5 (zi_and (g0 r3) (zi_xor x4 (-1)))) (zi_xor (zi_shl 1 r3) (-1))) (zi_w (x6 + 1))))) none))) else (some x4)
def zf_View_reach_l0 (x2 : Int) (x3 : Int) (g0 : (Int → Int)) : Nat → Int → Int → Int → Option (Int)
  | 0, _, _, _ => none
  | n + 1, x4, x5, x6 => zf_View_reach_l0_b x2 x3 g0 (zf_View_reach_l0 x2 x3 g0 n) x4 x5 x6
def zf_View_reach (x1 : Int) (x2 : Int) (x3 : Int) (g0 : (Int → Int)) : Option (Int) := (zf_View_reach_l0 x2 x3 g0 zi_fu (zi_shl 1 x1) (zi_shl 1 x1) 0).bind fun q7 => (some q7)
theorem zd104_0 : decode zxm104.2.1 0 = .ok (.iconst 1, 1) := by decide +kernel
theorem zd104_1 : decode zxm104.2.1 1 = .ok (.iload_n 1, 1) := by decide +kernel
theorem zd104_2 : decode zxm104.2.1 2 = .ok (.ishl, 1) := by decide +kernel
theorem zd104_3 : decode zxm104.2.1 3 = .ok (.istore 4, 2) := by decide +kernel
theorem zd104_5 : decode zxm104.2.1 5 = .ok (.iload 4, 2) := by decide +kernel
theorem zd104_7 : decode zxm104.2.1 7 = .ok (.istore 5, 2) := by decide +kernel
theorem zd104_9 : decode zxm104.2.1 9 = .ok (.iconst 0, 1) := by decide +kernel
theorem zd104_10 : decode zxm104.2.1 10 = .ok (.istore 6, 2) := by decide +kernel
theorem zd104_12 : decode zxm104.2.1 12 = .ok (.iload 6, 2) := by decide +kernel
theorem zd104_14 : decode zxm104.2.1 14 = .ok (.bipush 24, 2) := by decide +kernel
theorem zd104_16 : decode zxm104.2.1 16 = .ok (.if_icmp .ge 91, 3) := by decide +kernel
theorem zd104_19 : decode zxm104.2.1 19 = .ok (.iload 5, 2) := by decide +kernel
theorem zd104_21 : decode zxm104.2.1 21 = .ok (.ifCond .eq 86, 3) := by decide +kernel
theorem zd104_24 : decode zxm104.2.1 24 = .ok (.iload 5, 2) := by decide +kernel
theorem zd104_26 : decode zxm104.2.1 26 = .ok (.invokestatic 136, 3) := by decide +kernel
theorem zd104_29 : decode zxm104.2.1 29 = .ok (.istore 7, 2) := by decide +kernel
theorem zd104_31 : decode zxm104.2.1 31 = .ok (.aload_n 0, 1) := by decide +kernel
theorem zd104_32 : decode zxm104.2.1 32 = .ok (.getfield 21, 3) := by decide +kernel
theorem zd104_35 : decode zxm104.2.1 35 = .ok (.iload 7, 2) := by decide +kernel
theorem zd104_37 : decode zxm104.2.1 37 = .ok (.iaload, 1) := by decide +kernel
theorem zd104_38 : decode zxm104.2.1 38 = .ok (.istore 8, 2) := by decide +kernel
theorem zd104_40 : decode zxm104.2.1 40 = .ok (.iload 7, 2) := by decide +kernel
theorem zd104_42 : decode zxm104.2.1 42 = .ok (.iload_n 2, 1) := by decide +kernel
theorem zd104_43 : decode zxm104.2.1 43 = .ok (.if_icmp .ne 16, 3) := by decide +kernel
theorem zd104_46 : decode zxm104.2.1 46 = .ok (.iload 8, 2) := by decide +kernel
theorem zd104_48 : decode zxm104.2.1 48 = .ok (.iconst 1, 1) := by decide +kernel
theorem zd104_49 : decode zxm104.2.1 49 = .ok (.iload_n 3, 1) := by decide +kernel
theorem zd104_50 : decode zxm104.2.1 50 = .ok (.ishl, 1) := by decide +kernel
theorem zd104_51 : decode zxm104.2.1 51 = .ok (.iconst (-1), 1) := by decide +kernel
theorem zd104_52 : decode zxm104.2.1 52 = .ok (.ixor, 1) := by decide +kernel
theorem zd104_53 : decode zxm104.2.1 53 = .ok (.iand, 1) := by decide +kernel
theorem zd104_54 : decode zxm104.2.1 54 = .ok (.istore 8, 2) := by decide +kernel
theorem zd104_56 : decode zxm104.2.1 56 = .ok (.goto 19, 3) := by decide +kernel
theorem zd104_59 : decode zxm104.2.1 59 = .ok (.iload 7, 2) := by decide +kernel
theorem zd104_61 : decode zxm104.2.1 61 = .ok (.iload_n 3, 1) := by decide +kernel
theorem zd104_62 : decode zxm104.2.1 62 = .ok (.if_icmp .ne 13, 3) := by decide +kernel
theorem zd104_65 : decode zxm104.2.1 65 = .ok (.iload 8, 2) := by decide +kernel
theorem zd104_67 : decode zxm104.2.1 67 = .ok (.iconst 1, 1) := by decide +kernel
theorem zd104_68 : decode zxm104.2.1 68 = .ok (.iload_n 2, 1) := by decide +kernel
theorem zd104_69 : decode zxm104.2.1 69 = .ok (.ishl, 1) := by decide +kernel
theorem zd104_70 : decode zxm104.2.1 70 = .ok (.iconst (-1), 1) := by decide +kernel
theorem zd104_71 : decode zxm104.2.1 71 = .ok (.ixor, 1) := by decide +kernel
theorem zd104_72 : decode zxm104.2.1 72 = .ok (.iand, 1) := by decide +kernel
theorem zd104_73 : decode zxm104.2.1 73 = .ok (.istore 8, 2) := by decide +kernel
theorem zd104_75 : decode zxm104.2.1 75 = .ok (.iload 5, 2) := by decide +kernel
theorem zd104_77 : decode zxm104.2.1 77 = .ok (.iload 8, 2) := by decide +kernel
theorem zd104_79 : decode zxm104.2.1 79 = .ok (.iload 4, 2) := by decide +kernel
theorem zd104_81 : decode zxm104.2.1 81 = .ok (.iconst (-1), 1) := by decide +kernel
theorem zd104_82 : decode zxm104.2.1 82 = .ok (.ixor, 1) := by decide +kernel
theorem zd104_83 : decode zxm104.2.1 83 = .ok (.iand, 1) := by decide +kernel
theorem zd104_84 : decode zxm104.2.1 84 = .ok (.ior, 1) := by decide +kernel
theorem zd104_85 : decode zxm104.2.1 85 = .ok (.iconst 1, 1) := by decide +kernel
theorem zd104_86 : decode zxm104.2.1 86 = .ok (.iload 7, 2) := by decide +kernel
theorem zd104_88 : decode zxm104.2.1 88 = .ok (.ishl, 1) := by decide +kernel
theorem zd104_89 : decode zxm104.2.1 89 = .ok (.iconst (-1), 1) := by decide +kernel
theorem zd104_90 : decode zxm104.2.1 90 = .ok (.ixor, 1) := by decide +kernel
theorem zd104_91 : decode zxm104.2.1 91 = .ok (.iand, 1) := by decide +kernel
theorem zd104_92 : decode zxm104.2.1 92 = .ok (.istore 5, 2) := by decide +kernel
theorem zd104_94 : decode zxm104.2.1 94 = .ok (.iload 4, 2) := by decide +kernel
theorem zd104_96 : decode zxm104.2.1 96 = .ok (.iload 8, 2) := by decide +kernel
theorem zd104_98 : decode zxm104.2.1 98 = .ok (.ior, 1) := by decide +kernel
theorem zd104_99 : decode zxm104.2.1 99 = .ok (.istore 4, 2) := by decide +kernel
theorem zd104_101 : decode zxm104.2.1 101 = .ok (.iinc 6 1, 3) := by decide +kernel
theorem zd104_104 : decode zxm104.2.1 104 = .ok (.goto (-92), 3) := by decide +kernel
theorem zd104_107 : decode zxm104.2.1 107 = .ok (.iload 4, 2) := by decide +kernel
theorem zd104_109 : decode zxm104.2.1 109 = .ok (.ireturn, 1) := by decide +kernel
theorem zt_View_reach {x1 : Int} {x2 : Int} {x3 : Int} {g0 : (Int → Int)} {o : Int} (h : zf_View_reach x1 x2 x3 g0 = some o) : zv_Fn z_TB z_cl z_KX zy_View_reach zxm104 (2, 120) [.inr 0, .inl x1, .inl x2, .inl x3] [] [g0] (some o) [] [g0] := zv_meth (K := (z_KF11, z_KC11, z_KL11, z_KT11, [], [], [], none)) (FT := z_FT) (MT := z_MT) (n := 4) zxp104 (z_ks11 _ (fun _ h => List.mem_cons_of_mem _ h) _ _ _ _ (fun j r h _ => by cases h)) (fun _ _ => zs_KX_p) zyw_View_reach (fun va F G h => by obtain ⟨rfl, _⟩ := h; rfl) (fun va F G h => by obtain ⟨rfl, _⟩ := h; rfl) rfl fun good va F G hB hret hvret hP => by
  obtain ⟨rfl, rfl, rfl⟩ := hP
  have l0 : ∀ (n : Nat) (x2 : Int) (x3 : Int) (x4 : Int) (x5 : Int) (x6 : Int) (q : Int), zf_View_reach_l0 x2 x3 g0 n x4 x5 x6 = some q → (good 107 [.inr 1000, .inr 1000, .inr 1000, .inr 1000, .inl q, .inr 1000, .inr 1000, .inr 1000, .inr 1000] [] [] [g0]) → good 12 [.inr 0, .inr 1000, .inl x2, .inl x3, .inl x4, .inl x5, .inl x6, .inr 1000, .inr 1000] [] [] [g0] := by
    intro n
    induction n with
    | zero => intro x2 x3 x4 x5 x6 q h; exact absurd (show none = some q from h) (fun h => by cases h)
    | succ n ih =>
      intro x2 x3 x4 x5 x6 q h hK
      replace h : zf_View_reach_l0_b x2 x3 g0 (zf_View_reach_l0 x2 x3 g0 n) x4 x5 x6 = some q := h
      unfold zf_View_reach_l0_b at h
      refine zv_ild hB zd104_12 rfl rfl ?_
      refine zv_con hB zd104_14 rfl ?_
      refine zv_cge hB zd104_16 rfl (fun hc1 => ?_) (fun hc1 => ?_)
      · rw [if_neg (Int.not_lt.mpr hc1)] at h
        have hq := Option.some.inj h
        subst hq
        refine zv_wk hB (L' := [.inr 1000, .inr 1000, .inr 1000, .inr 1000, .inl x4, .inr 1000, .inr 1000, .inr 1000, .inr 1000]) (F' := []) ⟨fun (h : zv_is (.inr 1000)) => (Nat.lt_irrefl 1000 h).elim, fun (h : zv_is (.inr 1000)) => (Nat.lt_irrefl 1000 h).elim, fun (h : zv_is (.inr 1000)) => (Nat.lt_irrefl 1000 h).elim, fun (h : zv_is (.inr 1000)) => (Nat.lt_irrefl 1000 h).elim, fun _ => rfl, fun (h : zv_is (.inr 1000)) => (Nat.lt_irrefl 1000 h).elim, fun (h : zv_is (.inr 1000)) => (Nat.lt_irrefl 1000 h).elim, fun (h : zv_is (.inr 1000)) => (Nat.lt_irrefl 1000 h).elim, fun (h : zv_is (.inr 1000)) => (Nat.lt_irrefl 1000 h).elim, trivial⟩ trivial ?_
        exact hK
      · rw [if_pos hc1] at h
        refine zv_ild hB zd104_19 rfl rfl ?_
        refine zv_zeq hB zd104_21 rfl (fun hc2 => ?_) (fun hc2 => ?_)
        · rw [if_pos hc2] at h
          have hq := Option.some.inj h
          subst hq
          refine zv_wk hB (L' := [.inr 1000, .inr 1000, .inr 1000, .inr 1000, .inl x4, .inr 1000, .inr 1000, .inr 1000, .inr 1000]) (F' := []) ⟨fun (h : zv_is (.inr 1000)) => (Nat.lt_irrefl 1000 h).elim, fun (h : zv_is (.inr 1000)) => (Nat.lt_irrefl 1000 h).elim, fun (h : zv_is (.inr 1000)) => (Nat.lt_irrefl 1000 h).elim, fun (h : zv_is (.inr 1000)) => (Nat.lt_irrefl 1000 h).elim, fun _ => rfl, fun (h : zv_is (.inr 1000)) => (Nat.lt_irrefl 1000 h).elim, fun (h : zv_is (.inr 1000)) => (Nat.lt_irrefl 1000 h).elim, fun (h : zv_is (.inr 1000)) => (Nat.lt_irrefl 1000 h).elim, fun (h : zv_is (.inr 1000)) => (Nat.lt_irrefl 1000 h).elim, trivial⟩ trivial ?_
          exact hK
        · rw [if_neg hc2] at h
          refine zv_ild hB zd104_24 rfl rfl ?_
          obtain ⟨r3, hr3, h⟩ := zi_bind h
          refine zv_cs hB (zv_emq (va2 := [.inl x5]) (F := []) (F' := []) (G := [g0]) (G' := [g0]) (ρ := []) (φ := []) (ψ := []) [] [none] zyw_X_lowestOf zyw_View_reach zye_View_reach (by decide +kernel) (zt_X_lowestOf hr3) trivial trivial rfl rfl rfl rfl rfl rfl rfl) zd104_26 zxt105 rfl (by decide) (by decide) rfl ?_
          refine zv_ist hB zd104_29 rfl rfl rfl ?_
          refine zv_ald hB zd104_31 rfl rfl rfl ?_
          refine zv_getr hB zd104_32 rfl ?_
          refine zv_ild hB zd104_35 rfl rfl ?_
          obtain ⟨c4, h⟩ := zi_if h
          refine zv_iald hB zd104_37 rfl rfl (zi_ix_ok c4).1 (zi_ix_ok c4).2 (fun _ _ => ?_)
          refine zv_ist hB zd104_38 rfl rfl rfl ?_
          refine zv_ild hB zd104_40 rfl rfl ?_
          refine zv_ild hB zd104_42 rfl rfl ?_
          refine zv_cne hB zd104_43 rfl (fun hc5 => ?_) (fun hc5 => ?_)
          · rw [if_neg hc5] at h
            refine zv_ild hB zd104_59 rfl rfl ?_
            refine zv_ild hB zd104_61 rfl rfl ?_
            refine zv_cne hB zd104_62 rfl (fun hc6 => ?_) (fun hc6 => ?_)
            · rw [if_neg hc6] at h
              refine zv_ild hB zd104_75 rfl rfl ?_
              refine zv_ild hB zd104_77 rfl rfl ?_
              refine zv_ild hB zd104_79 rfl rfl ?_
              refine zv_con hB zd104_81 rfl ?_
              refine zv_xorw hB zd104_82 ?_
              refine zv_andw hB zd104_83 ?_
              refine zv_orw hB zd104_84 ?_
              refine zv_con hB zd104_85 rfl ?_
              refine zv_ild hB zd104_86 rfl rfl ?_
              refine zv_shlw hB zd104_88 ?_
              refine zv_con hB zd104_89 rfl ?_
              refine zv_xorw hB zd104_90 ?_
              refine zv_andw hB zd104_91 ?_
              refine zv_ist hB zd104_92 rfl rfl rfl ?_
              refine zv_ild hB zd104_94 rfl rfl ?_
              refine zv_ild hB zd104_96 rfl rfl ?_
              refine zv_orw hB zd104_98 ?_
              refine zv_ist hB zd104_99 rfl rfl rfl ?_
              refine zv_iincw hB zd104_101 rfl rfl ?_
              refine zv_goto hB zd104_104 rfl ?_
              refine zv_wk hB (L' := [.inr 0, .inr 1000, .inl x2, .inl x3, .inl (zi_or x4 (g0 r3)), .inl (zi_and (zi_or x5 (zi_and (g0 r3) (zi_xor x4 (-1)))) (zi_xor (zi_shl 1 r3) (-1))), .inl (zi_w (x6 + 1)), .inr 1000, .inr 1000]) (F' := []) ⟨fun _ => rfl, fun (h : zv_is (.inr 1000)) => (Nat.lt_irrefl 1000 h).elim, fun _ => rfl, fun _ => rfl, fun _ => rfl, fun _ => rfl, fun _ => rfl, fun (h : zv_is (.inr 1000)) => (Nat.lt_irrefl 1000 h).elim, fun (h : zv_is (.inr 1000)) => (Nat.lt_irrefl 1000 h).elim, trivial⟩ trivial ?_
              exact ih _ _ _ _ _ q h hK
            · rw [if_pos hc6] at h
              refine zv_ild hB zd104_65 rfl rfl ?_
              refine zv_con hB zd104_67 rfl ?_
              refine zv_ild hB zd104_68 rfl rfl ?_
              refine zv_shlw hB zd104_69 ?_
              refine zv_con hB zd104_70 rfl ?_
              refine zv_xorw hB zd104_71 ?_
              refine zv_andw hB zd104_72 ?_
              refine zv_ist hB zd104_73 rfl rfl rfl ?_
              refine zv_ild hB zd104_75 rfl rfl ?_
              refine zv_ild hB zd104_77 rfl rfl ?_
              refine zv_ild hB zd104_79 rfl rfl ?_
              refine zv_con hB zd104_81 rfl ?_
              refine zv_xorw hB zd104_82 ?_
              refine zv_andw hB zd104_83 ?_
              refine zv_orw hB zd104_84 ?_
              refine zv_con hB zd104_85 rfl ?_
              refine zv_ild hB zd104_86 rfl rfl ?_
              refine zv_shlw hB zd104_88 ?_
              refine zv_con hB zd104_89 rfl ?_
              refine zv_xorw hB zd104_90 ?_
              refine zv_andw hB zd104_91 ?_
              refine zv_ist hB zd104_92 rfl rfl rfl ?_
              refine zv_ild hB zd104_94 rfl rfl ?_
              refine zv_ild hB zd104_96 rfl rfl ?_
              refine zv_orw hB zd104_98 ?_
              refine zv_ist hB zd104_99 rfl rfl rfl ?_
              refine zv_iincw hB zd104_101 rfl rfl ?_
              refine zv_goto hB zd104_104 rfl ?_
              refine zv_wk hB (L' := [.inr 0, .inr 1000, .inl x2, .inl x3, .inl (zi_or x4 (zi_and (g0 r3) (zi_xor (zi_shl 1 x2) (-1)))), .inl (zi_and (zi_or x5 (zi_and (zi_and (g0 r3) (zi_xor (zi_shl 1 x2) (-1))) (zi_xor x4 (-1)))) (zi_xor (zi_shl 1 r3) (-1))), .inl (zi_w (x6 + 1)), .inr 1000, .inr 1000]) (F' := []) ⟨fun _ => rfl, fun (h : zv_is (.inr 1000)) => (Nat.lt_irrefl 1000 h).elim, fun _ => rfl, fun _ => rfl, fun _ => rfl, fun _ => rfl, fun _ => rfl, fun (h : zv_is (.inr 1000)) => (Nat.lt_irrefl 1000 h).elim, fun (h : zv_is (.inr 1000)) => (Nat.lt_irrefl 1000 h).elim, trivial⟩ trivial ?_
              exact ih _ _ _ _ _ q h hK
          · rw [if_pos hc5] at h
            refine zv_ild hB zd104_46 rfl rfl ?_
            refine zv_con hB zd104_48 rfl ?_
            refine zv_ild hB zd104_49 rfl rfl ?_
            refine zv_shlw hB zd104_50 ?_
            refine zv_con hB zd104_51 rfl ?_
            refine zv_xorw hB zd104_52 ?_
            refine zv_andw hB zd104_53 ?_
            refine zv_ist hB zd104_54 rfl rfl rfl ?_
            refine zv_goto hB zd104_56 rfl ?_
            refine zv_ild hB zd104_75 rfl rfl ?_
            refine zv_ild hB zd104_77 rfl rfl ?_
            refine zv_ild hB zd104_79 rfl rfl ?_
            refine zv_con hB zd104_81 rfl ?_
            refine zv_xorw hB zd104_82 ?_
            refine zv_andw hB zd104_83 ?_
            refine zv_orw hB zd104_84 ?_
            refine zv_con hB zd104_85 rfl ?_
            refine zv_ild hB zd104_86 rfl rfl ?_
            refine zv_shlw hB zd104_88 ?_
            refine zv_con hB zd104_89 rfl ?_
            refine zv_xorw hB zd104_90 ?_
            refine zv_andw hB zd104_91 ?_
            refine zv_ist hB zd104_92 rfl rfl rfl ?_
            refine zv_ild hB zd104_94 rfl rfl ?_
            refine zv_ild hB zd104_96 rfl rfl ?_
            refine zv_orw hB zd104_98 ?_
            refine zv_ist hB zd104_99 rfl rfl rfl ?_
            refine zv_iincw hB zd104_101 rfl rfl ?_
            refine zv_goto hB zd104_104 rfl ?_
            refine zv_wk hB (L' := [.inr 0, .inr 1000, .inl x2, .inl x3, .inl (zi_or x4 (zi_and (g0 r3) (zi_xor (zi_shl 1 x3) (-1)))), .inl (zi_and (zi_or x5 (zi_and (zi_and (g0 r3) (zi_xor (zi_shl 1 x3) (-1))) (zi_xor x4 (-1)))) (zi_xor (zi_shl 1 r3) (-1))), .inl (zi_w (x6 + 1)), .inr 1000, .inr 1000]) (F' := []) ⟨fun _ => rfl, fun (h : zv_is (.inr 1000)) => (Nat.lt_irrefl 1000 h).elim, fun _ => rfl, fun _ => rfl, fun _ => rfl, fun _ => rfl, fun _ => rfl, fun (h : zv_is (.inr 1000)) => (Nat.lt_irrefl 1000 h).elim, fun (h : zv_is (.inr 1000)) => (Nat.lt_irrefl 1000 h).elim, trivial⟩ trivial ?_
            exact ih _ _ _ _ _ q h hK
  unfold zf_View_reach at h
  refine zv_con hB zd104_0 rfl ?_
  refine zv_ild hB zd104_1 rfl rfl ?_
  refine zv_shlw hB zd104_2 ?_
  refine zv_ist hB zd104_3 rfl rfl rfl ?_
  refine zv_ild hB zd104_5 rfl rfl ?_
  refine zv_ist hB zd104_7 rfl rfl rfl ?_
  refine zv_con hB zd104_9 rfl ?_
  refine zv_ist hB zd104_10 rfl rfl rfl ?_
  obtain ⟨q7, hq7, h⟩ := zi_bind h
  refine zv_wk hB (L' := [.inr 0, .inr 1000, .inl x2, .inl x3, .inl (zi_shl 1 x1), .inl (zi_shl 1 x1), .inl 0, .inr 1000, .inr 1000]) (F' := []) ⟨fun _ => rfl, fun (h : zv_is (.inr 1000)) => (Nat.lt_irrefl 1000 h).elim, fun _ => rfl, fun _ => rfl, fun _ => rfl, fun _ => rfl, fun _ => rfl, fun (h : zv_is (.inr 1000)) => (Nat.lt_irrefl 1000 h).elim, fun (h : zv_is (.inr 1000)) => (Nat.lt_irrefl 1000 h).elim, trivial⟩ trivial ?_
  refine l0 _ _ _ _ _ _ q7 hq7 ?_
  show good 107 [.inr 1000, .inr 1000, .inr 1000, .inr 1000, .inl q7, .inr 1000, .inr 1000, .inr 1000, .inr 1000] [] [] [g0]
  refine zv_ild hB zd104_107 rfl rfl ?_
  have hw := Option.some.inj h
  subst hw
  exact hret _ _ _ _ _ zd104_109 (by trivial) ⟨rfl, rfl, rfl⟩
/-! View_countFigures ()I -/
-- names: 0 View('arg', 0), 1 (0, 24)(0, 7, 5)
-- fields: f0 = 0.shown_; arrays: g0 = 1; out: [('ret', None)]
abbrev zy_View_countFigures : zNL := (2, [(0, 7)], [(0, 7, 4, 0)], [(0, 7, 5, 1)], [(1, 0, 24, 0)])
theorem zyw_View_countFigures : zv_wf zy_View_countFigures = true := by decide +kernel
theorem zye_View_countFigures : zv_ek2 zy_View_countFigures = true := by decide +kernel
def zf_View_countFigures_l0_b (g0 : (Int → Int)) (rec : Int → Int → Int → Option (Int)) (x1 : Int) (x2 : Int) (x3 : Int) : Option (Int) := if x3 < 24 then (if (zi_and (zi_shr x2 x3) 1) = 0 then (rec x1 x2 (zi_w (x3 + 1))) else ((zf_View_reach x3 (-1) (-1) g0).bind fun r3 => (rec (zi_w (x1 + 1)) (zi_and x2 (zi_xor r3 (-1))) (zi_w (x3 + 1))))) else (some x1)
def zf_View_countFigures_l0 (g0 : (Int → Int)) : Nat → Int → Int → Int → Option (Int)
  | 0, _, _, _ => none
  | n + 1, x1, x2, x3 => zf_View_countFigures_l0_b g0 (zf_View_countFigures_l0 g0 n) x1 x2 x3
def zf_View_countFigures (f0 : Int) (g0 : (Int → Int)) : Option (Int) := (zf_View_countFigures_l0 g0 zi_fu 0 f0 0).bind fun q4 => (some q4)
theorem zd103_0 : decode zxm103.2.1 0 = .ok (.iconst 0, 1) := by decide +kernel
theorem zd103_1 : decode zxm103.2.1 1 = .ok (.istore_n 1, 1) := by decide +kernel
theorem zd103_2 : decode zxm103.2.1 2 = .ok (.aload_n 0, 1) := by decide +kernel
theorem zd103_3 : decode zxm103.2.1 3 = .ok (.getfield 18, 3) := by decide +kernel
theorem zd103_6 : decode zxm103.2.1 6 = .ok (.istore_n 2, 1) := by decide +kernel
theorem zd103_7 : decode zxm103.2.1 7 = .ok (.iconst 0, 1) := by decide +kernel
theorem zd103_8 : decode zxm103.2.1 8 = .ok (.istore_n 3, 1) := by decide +kernel
theorem zd103_9 : decode zxm103.2.1 9 = .ok (.iload_n 3, 1) := by decide +kernel
theorem zd103_10 : decode zxm103.2.1 10 = .ok (.bipush 24, 2) := by decide +kernel
theorem zd103_12 : decode zxm103.2.1 12 = .ok (.if_icmp .ge 32, 3) := by decide +kernel
theorem zd103_15 : decode zxm103.2.1 15 = .ok (.iload_n 2, 1) := by decide +kernel
theorem zd103_16 : decode zxm103.2.1 16 = .ok (.iload_n 3, 1) := by decide +kernel
theorem zd103_17 : decode zxm103.2.1 17 = .ok (.ishr, 1) := by decide +kernel
theorem zd103_18 : decode zxm103.2.1 18 = .ok (.iconst 1, 1) := by decide +kernel
theorem zd103_19 : decode zxm103.2.1 19 = .ok (.iand, 1) := by decide +kernel
theorem zd103_20 : decode zxm103.2.1 20 = .ok (.ifCond .eq 18, 3) := by decide +kernel
theorem zd103_23 : decode zxm103.2.1 23 = .ok (.iinc 1 1, 3) := by decide +kernel
theorem zd103_26 : decode zxm103.2.1 26 = .ok (.iload_n 2, 1) := by decide +kernel
theorem zd103_27 : decode zxm103.2.1 27 = .ok (.aload_n 0, 1) := by decide +kernel
theorem zd103_28 : decode zxm103.2.1 28 = .ok (.iload_n 3, 1) := by decide +kernel
theorem zd103_29 : decode zxm103.2.1 29 = .ok (.iconst (-1), 1) := by decide +kernel
theorem zd103_30 : decode zxm103.2.1 30 = .ok (.iconst (-1), 1) := by decide +kernel
theorem zd103_31 : decode zxm103.2.1 31 = .ok (.invokevirtual 139, 3) := by decide +kernel
theorem zd103_34 : decode zxm103.2.1 34 = .ok (.iconst (-1), 1) := by decide +kernel
theorem zd103_35 : decode zxm103.2.1 35 = .ok (.ixor, 1) := by decide +kernel
theorem zd103_36 : decode zxm103.2.1 36 = .ok (.iand, 1) := by decide +kernel
theorem zd103_37 : decode zxm103.2.1 37 = .ok (.istore_n 2, 1) := by decide +kernel
theorem zd103_38 : decode zxm103.2.1 38 = .ok (.iinc 3 1, 3) := by decide +kernel
theorem zd103_41 : decode zxm103.2.1 41 = .ok (.goto (-32), 3) := by decide +kernel
theorem zd103_44 : decode zxm103.2.1 44 = .ok (.iload_n 1, 1) := by decide +kernel
theorem zd103_45 : decode zxm103.2.1 45 = .ok (.ireturn, 1) := by decide +kernel
theorem zt_View_countFigures {f0 : Int} {g0 : (Int → Int)} {o : Int} (h : zf_View_countFigures f0 g0 = some o) : zv_Fn z_TB z_cl z_KX zy_View_countFigures zxm103 (3, 180) [.inr 0] [.inl f0] [g0] (some o) [.inl f0] [g0] := zv_meth (K := (z_KF11, z_KC11, z_KL11, z_KT11, [], [], [], none)) (FT := z_FT) (MT := z_MT) (n := 1) zxp103 (z_ks11 _ (fun _ h => List.mem_cons_of_mem _ h) _ _ _ _ (fun j r h _ => by cases h)) (fun _ _ => zs_KX_p) zyw_View_countFigures (fun va F G h => by obtain ⟨rfl, _⟩ := h; rfl) (fun va F G h => by obtain ⟨rfl, _⟩ := h; rfl) rfl fun good va F G hB hret hvret hP => by
  obtain ⟨rfl, rfl, rfl⟩ := hP
  have l0 : ∀ (n : Nat) (x1 : Int) (x2 : Int) (x3 : Int) (q : Int), zf_View_countFigures_l0 g0 n x1 x2 x3 = some q → (good 44 [.inr 1000, .inl q, .inr 1000, .inr 1000] [] [.inl f0] [g0]) → good 9 [.inr 0, .inl x1, .inl x2, .inl x3] [] [.inl f0] [g0] := by
    intro n
    induction n with
    | zero => intro x1 x2 x3 q h; exact absurd (show none = some q from h) (fun h => by cases h)
    | succ n ih =>
      intro x1 x2 x3 q h hK
      replace h : zf_View_countFigures_l0_b g0 (zf_View_countFigures_l0 g0 n) x1 x2 x3 = some q := h
      unfold zf_View_countFigures_l0_b at h
      refine zv_ild hB zd103_9 rfl rfl ?_
      refine zv_con hB zd103_10 rfl ?_
      refine zv_cge hB zd103_12 rfl (fun hc1 => ?_) (fun hc1 => ?_)
      · rw [if_neg (Int.not_lt.mpr hc1)] at h
        have hq := Option.some.inj h
        subst hq
        refine zv_wk hB (L' := [.inr 1000, .inl x1, .inr 1000, .inr 1000]) (F' := [.inl f0]) ⟨fun (h : zv_is (.inr 1000)) => (Nat.lt_irrefl 1000 h).elim, fun _ => rfl, fun (h : zv_is (.inr 1000)) => (Nat.lt_irrefl 1000 h).elim, fun (h : zv_is (.inr 1000)) => (Nat.lt_irrefl 1000 h).elim, trivial⟩ ⟨fun _ => rfl, trivial⟩ ?_
        exact hK
      · rw [if_pos hc1] at h
        refine zv_ild hB zd103_15 rfl rfl ?_
        refine zv_ild hB zd103_16 rfl rfl ?_
        refine zv_shrw hB zd103_17 ?_
        refine zv_con hB zd103_18 rfl ?_
        refine zv_andw hB zd103_19 ?_
        refine zv_zeq hB zd103_20 rfl (fun hc2 => ?_) (fun hc2 => ?_)
        · rw [if_pos hc2] at h
          refine zv_iincw hB zd103_38 rfl rfl ?_
          refine zv_goto hB zd103_41 rfl ?_
          exact ih _ _ _ q h hK
        · rw [if_neg hc2] at h
          refine zv_iincw hB zd103_23 rfl rfl ?_
          refine zv_ild hB zd103_26 rfl rfl ?_
          refine zv_ald hB zd103_27 rfl rfl rfl ?_
          refine zv_ild hB zd103_28 rfl rfl ?_
          refine zv_con hB zd103_29 rfl ?_
          refine zv_con hB zd103_30 rfl ?_
          obtain ⟨r3, hr3, h⟩ := zi_bind h
          refine zv_cv hB (zv_emq (va2 := [.inr 0, .inl x3, .inl (-1), .inl (-1)]) (F := [.inl f0]) (F' := [.inl f0]) (G := [g0]) (G' := [g0]) (ρ := [0, 1]) (φ := []) (ψ := [0]) [none] [some 0] zyw_View_reach zyw_View_countFigures zye_View_countFigures (by decide +kernel) (zt_View_reach hr3) trivial ⟨rfl, trivial⟩ rfl rfl rfl rfl rfl rfl rfl) zd103_31 zxt104 rfl (by decide) (by decide) rfl ?_
          refine zv_con hB zd103_34 rfl ?_
          refine zv_xorw hB zd103_35 ?_
          refine zv_andw hB zd103_36 ?_
          refine zv_ist hB zd103_37 rfl rfl rfl ?_
          refine zv_iincw hB zd103_38 rfl rfl ?_
          refine zv_goto hB zd103_41 rfl ?_
          exact ih _ _ _ q h hK
  unfold zf_View_countFigures at h
  refine zv_con hB zd103_0 rfl ?_
  refine zv_ist hB zd103_1 rfl rfl rfl ?_
  refine zv_ald hB zd103_2 rfl rfl rfl ?_
  refine zv_getf hB zd103_3 rfl rfl (fun _ _ => ?_)
  refine zv_ist hB zd103_6 rfl rfl rfl ?_
  refine zv_con hB zd103_7 rfl ?_
  refine zv_ist hB zd103_8 rfl rfl rfl ?_
  obtain ⟨q4, hq4, h⟩ := zi_bind h
  refine l0 _ _ _ _ q4 hq4 ?_
  show good 44 [.inr 1000, .inl q4, .inr 1000, .inr 1000] [] [.inl f0] [g0]
  refine zv_ild hB zd103_44 rfl rfl ?_
  have hw := Option.some.inj h
  subst hw
  exact hret _ _ _ _ _ zd103_45 (by trivial) ⟨rfl, rfl, rfl⟩
end
