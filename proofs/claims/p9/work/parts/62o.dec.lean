/-! Methods as functions, and that they do what these do. -/
/-! M_fastest (IIIII)I -/
-- names: 0 StarTalesModel('arg', 0), 1 (0, 422)(0, 12, 0), 2 (0, 422)(0, 12, 1), 3 (0, 14)(0, 12, 21), 4 (0, 13)(0, 12, 26), 5 (0, 14)(0, 12, 23), 6 (0, 14)(0, 12, 24), 7 (0, 220)(0, 12, 20), 8 (0, 220)(0, 12, 25), 9 (0, 14)(0, 12, 22)
-- fields: f0 = 0.clauses_; arrays: g0 = 1, g1 = 2, g2 = 3, g3 = 4, g4 = 5, g5 = 6, g6 = 7, g7 = 8, g8 = 9; out: [('ret', None), ('g', 0), ('g', 1), ('g', 3), ('g', 7)]
abbrev zy_M_fastest : zNL := (10, [(0, 12)], [(0, 12, 13, 0)], [(0, 12, 0, 1), (0, 12, 1, 2), (0, 12, 21, 3), (0, 12, 26, 4), (0, 12, 23, 5), (0, 12, 24, 6), (0, 12, 20, 7), (0, 12, 25, 8), (0, 12, 22, 9)], [(1, 0, 422, 0), (2, 0, 422, 1), (3, 0, 14, 2), (4, 0, 13, 3), (5, 0, 14, 4), (6, 0, 14, 5), (7, 0, 220, 6), (8, 0, 220, 7), (9, 0, 14, 8)])
theorem zyw_M_fastest : zv_wf zy_M_fastest = true := by decide +kernel
theorem zye_M_fastest : zv_ek2 zy_M_fastest = true := by decide +kernel
def zf_M_fastest_l0_b (x1 : Int) (x4 : Int) (x6 : Int) (f0 : Int) (g1 : (Int → Int)) (g2 : (Int → Int)) (g4 : (Int → Int)) (g5 : (Int → Int)) (g6 : (Int → Int)) (g8 : (Int → Int)) (rec : Int → Int → Int → (Int → Int) → (Int → Int) → (Int → Int) → Option (Int × Int × (Int → Int) × (Int → Int) × (Int → Int))) (x7 : Int) (x8 : Int) (x9 : Int) (g0 : (Int → Int)) (g3 : (Int → Int)) (g7 : (Int → Int)) : Option (Int × Int × (Int → Int) × (Int → Int) × (Int → Int)) := if x9 < 24 then ((zf_M_again g1 g0).bind fun r14 => ((zf_M_isTold x9 r14).bind fun r15 => (if r15 = 0 then (rec x7 x8 (zi_w (x9 + 1)) r14 g3 g7) else ((zf_M_comesBy x1 x9 x6 x4 f0 r14 g2 g3 g4 g5 g6 g7 g8).bind fun r18 => (if r18.1 = (-1) then (rec x7 x8 (zi_w (x9 + 1)) r18.2.1 r18.2.2.1 r18.2.2.2) else (if x7 < r18.1 then (rec x7 x8 (zi_w (x9 + 1)) r18.2.1 r18.2.2.1 r18.2.2.2) else (if r18.1 = x7 then (if x8 = (-2) then (rec r18.1 x9 (zi_w (x9 + 1)) r18.2.1 r18.2.2.1 r18.2.2.2) else (rec x7 x8 (zi_w (x9 + 1)) r18.2.1 r18.2.2.1 r18.2.2.2)) else (rec r18.1 x9 (zi_w (x9 + 1)) r18.2.1 r18.2.2.1 r18.2.2.2)))))))) else (some (x7, x8, g0, g3, g7))
def zf_M_fastest_l0 (x1 : Int) (x4 : Int) (x6 : Int) (f0 : Int) (g1 : (Int → Int)) (g2 : (Int → Int)) (g4 : (Int → Int)) (g5 : (Int → Int)) (g6 : (Int → Int)) (g8 : (Int → Int)) : Nat → Int → Int → Int → (Int → Int) → (Int → Int) → (Int → Int) → Option (Int × Int × (Int → Int) × (Int → Int) × (Int → Int))
  | 0, _, _, _, _, _, _ => none
  | n + 1, x7, x8, x9, g0, g3, g7 => zf_M_fastest_l0_b x1 x4 x6 f0 g1 g2 g4 g5 g6 g8 (zf_M_fastest_l0 x1 x4 x6 f0 g1 g2 g4 g5 g6 g8 n) x7 x8 x9 g0 g3 g7
def zf_M_fastest (x1 : Int) (x2 : Int) (x3 : Int) (x4 : Int) (x5 : Int) (f0 : Int) (g0 : (Int → Int)) (g1 : (Int → Int)) (g2 : (Int → Int)) (g3 : (Int → Int)) (g4 : (Int → Int)) (g5 : (Int → Int)) (g6 : (Int → Int)) (g7 : (Int → Int)) (g8 : (Int → Int)) : Option (Int × (Int → Int) × (Int → Int) × (Int → Int) × (Int → Int)) := (zf_M_isShip x1 g0).bind fun r1 => (if r1 = 0 then (some ((-1), g0, g1, g3, g7)) else ((zf_M_isPlace x2 x3).bind fun r3 => (if r3 = 0 then (some ((-1), g0, g1, g3, g7)) else ((zf_M_in x4 1 48).bind fun r5 => (if r5 = 0 then (some ((-1), g0, g1, g3, g7)) else ((zf_M_in x5 0 1).bind fun r7 => (if r7 = 0 then (some ((-1), g0, g1, g3, g7)) else (if (g0 126) = 0 then (some ((-1), g0, g1, g3, g7)) else (cond (zi_ix (zi_w (120 + x1)) 422) (if (g0 (zi_w (120 + x1))) = (zi_w ((zi_w (24 * x3)) + x2)) then ((zf_M_begins g0 g1).bind fun r27 => ((zf_M_fastest_l0 x1 x4 (zi_w ((zi_w (24 * x3)) + x2)) f0 r27 g2 g4 g5 g6 g8 zi_fu 0 (-2) 0 g0 g3 g7).bind fun q28 => ((zf_M_again r27 q28.2.2.1).bind fun r29 => (if q28.1 = 1000000000 then (some ((-2), r29, r27, q28.2.2.2.1, q28.2.2.2.2)) else (if x5 = 0 then (some (q28.1, r29, r27, q28.2.2.2.1, q28.2.2.2.2)) else (some (q28.2.1, r29, r27, q28.2.2.2.1, q28.2.2.2.2))))))) else ((zf_M_begins g0 g1).bind fun r12 => ((zf_M_fastest_l0 x1 x4 (zi_w ((zi_w (24 * x3)) + x2)) f0 r12 g2 g4 g5 g6 g8 zi_fu 1000000000 (-2) 0 g0 g3 g7).bind fun q23 => ((zf_M_again r12 q23.2.2.1).bind fun r24 => (if q23.1 = 1000000000 then (some ((-2), r24, r12, q23.2.2.2.1, q23.2.2.2.2)) else (if x5 = 0 then (some (q23.1, r24, r12, q23.2.2.2.1, q23.2.2.2.2)) else (some (q23.2.1, r24, r12, q23.2.2.2.1, q23.2.2.2.2)))))))) none)))))))))
theorem zd305_0 : decode zxm305.2.1 0 = .ok (.aload_n 0, 1) := by decide +kernel
theorem zd305_1 : decode zxm305.2.1 1 = .ok (.iload_n 1, 1) := by decide +kernel
theorem zd305_2 : decode zxm305.2.1 2 = .ok (.invokevirtual 162, 3) := by decide +kernel
theorem zd305_5 : decode zxm305.2.1 5 = .ok (.ifCond .eq 42, 3) := by decide +kernel
theorem zd305_8 : decode zxm305.2.1 8 = .ok (.iload_n 2, 1) := by decide +kernel
theorem zd305_9 : decode zxm305.2.1 9 = .ok (.iload_n 3, 1) := by decide +kernel
theorem zd305_10 : decode zxm305.2.1 10 = .ok (.invokestatic 154, 3) := by decide +kernel
theorem zd305_13 : decode zxm305.2.1 13 = .ok (.ifCond .eq 34, 3) := by decide +kernel
theorem zd305_16 : decode zxm305.2.1 16 = .ok (.iload 4, 2) := by decide +kernel
theorem zd305_18 : decode zxm305.2.1 18 = .ok (.iconst 1, 1) := by decide +kernel
theorem zd305_19 : decode zxm305.2.1 19 = .ok (.bipush 48, 2) := by decide +kernel
theorem zd305_21 : decode zxm305.2.1 21 = .ok (.invokestatic 150, 3) := by decide +kernel
theorem zd305_24 : decode zxm305.2.1 24 = .ok (.ifCond .eq 23, 3) := by decide +kernel
theorem zd305_27 : decode zxm305.2.1 27 = .ok (.iload 5, 2) := by decide +kernel
theorem zd305_29 : decode zxm305.2.1 29 = .ok (.iconst 0, 1) := by decide +kernel
theorem zd305_30 : decode zxm305.2.1 30 = .ok (.iconst 1, 1) := by decide +kernel
theorem zd305_31 : decode zxm305.2.1 31 = .ok (.invokestatic 150, 3) := by decide +kernel
theorem zd305_34 : decode zxm305.2.1 34 = .ok (.ifCond .eq 13, 3) := by decide +kernel
theorem zd305_37 : decode zxm305.2.1 37 = .ok (.aload_n 0, 1) := by decide +kernel
theorem zd305_38 : decode zxm305.2.1 38 = .ok (.getfield 7, 3) := by decide +kernel
theorem zd305_41 : decode zxm305.2.1 41 = .ok (.bipush 126, 2) := by decide +kernel
theorem zd305_43 : decode zxm305.2.1 43 = .ok (.iaload, 1) := by decide +kernel
theorem zd305_44 : decode zxm305.2.1 44 = .ok (.ifCond .ne 5, 3) := by decide +kernel
theorem zd305_47 : decode zxm305.2.1 47 = .ok (.iconst (-1), 1) := by decide +kernel
theorem zd305_48 : decode zxm305.2.1 48 = .ok (.ireturn, 1) := by decide +kernel
theorem zd305_49 : decode zxm305.2.1 49 = .ok (.bipush 24, 2) := by decide +kernel
theorem zd305_51 : decode zxm305.2.1 51 = .ok (.iload_n 3, 1) := by decide +kernel
theorem zd305_52 : decode zxm305.2.1 52 = .ok (.imul, 1) := by decide +kernel
theorem zd305_53 : decode zxm305.2.1 53 = .ok (.iload_n 2, 1) := by decide +kernel
theorem zd305_54 : decode zxm305.2.1 54 = .ok (.iadd, 1) := by decide +kernel
theorem zd305_55 : decode zxm305.2.1 55 = .ok (.istore 6, 2) := by decide +kernel
theorem zd305_57 : decode zxm305.2.1 57 = .ok (.aload_n 0, 1) := by decide +kernel
theorem zd305_58 : decode zxm305.2.1 58 = .ok (.getfield 7, 3) := by decide +kernel
theorem zd305_61 : decode zxm305.2.1 61 = .ok (.bipush 120, 2) := by decide +kernel
theorem zd305_63 : decode zxm305.2.1 63 = .ok (.iload_n 1, 1) := by decide +kernel
theorem zd305_64 : decode zxm305.2.1 64 = .ok (.iadd, 1) := by decide +kernel
theorem zd305_65 : decode zxm305.2.1 65 = .ok (.iaload, 1) := by decide +kernel
theorem zd305_66 : decode zxm305.2.1 66 = .ok (.iload 6, 2) := by decide +kernel
theorem zd305_68 : decode zxm305.2.1 68 = .ok (.if_icmp .ne 7, 3) := by decide +kernel
theorem zd305_71 : decode zxm305.2.1 71 = .ok (.iconst 0, 1) := by decide +kernel
theorem zd305_72 : decode zxm305.2.1 72 = .ok (.goto 6, 3) := by decide +kernel
theorem zd305_75 : decode zxm305.2.1 75 = .ok (.ldc_w 391, 3) := by decide +kernel
theorem zd305_78 : decode zxm305.2.1 78 = .ok (.istore 7, 2) := by decide +kernel
theorem zd305_80 : decode zxm305.2.1 80 = .ok (.bipush (-2), 2) := by decide +kernel
theorem zd305_82 : decode zxm305.2.1 82 = .ok (.istore 8, 2) := by decide +kernel
theorem zd305_84 : decode zxm305.2.1 84 = .ok (.aload_n 0, 1) := by decide +kernel
theorem zd305_85 : decode zxm305.2.1 85 = .ok (.invokevirtual 434, 3) := by decide +kernel
theorem zd305_88 : decode zxm305.2.1 88 = .ok (.iconst 0, 1) := by decide +kernel
theorem zd305_89 : decode zxm305.2.1 89 = .ok (.istore 9, 2) := by decide +kernel
theorem zd305_91 : decode zxm305.2.1 91 = .ok (.iload 9, 2) := by decide +kernel
theorem zd305_93 : decode zxm305.2.1 93 = .ok (.bipush 24, 2) := by decide +kernel
theorem zd305_95 : decode zxm305.2.1 95 = .ok (.if_icmp .ge 77, 3) := by decide +kernel
theorem zd305_98 : decode zxm305.2.1 98 = .ok (.aload_n 0, 1) := by decide +kernel
theorem zd305_99 : decode zxm305.2.1 99 = .ok (.invokevirtual 437, 3) := by decide +kernel
theorem zd305_102 : decode zxm305.2.1 102 = .ok (.aload_n 0, 1) := by decide +kernel
theorem zd305_103 : decode zxm305.2.1 103 = .ok (.iload 9, 2) := by decide +kernel
theorem zd305_105 : decode zxm305.2.1 105 = .ok (.invokevirtual 157, 3) := by decide +kernel
theorem zd305_108 : decode zxm305.2.1 108 = .ok (.ifCond .eq 17, 3) := by decide +kernel
theorem zd305_111 : decode zxm305.2.1 111 = .ok (.aload_n 0, 1) := by decide +kernel
theorem zd305_112 : decode zxm305.2.1 112 = .ok (.iload_n 1, 1) := by decide +kernel
theorem zd305_113 : decode zxm305.2.1 113 = .ok (.iload 9, 2) := by decide +kernel
theorem zd305_115 : decode zxm305.2.1 115 = .ok (.iload 6, 2) := by decide +kernel
theorem zd305_117 : decode zxm305.2.1 117 = .ok (.iload 4, 2) := by decide +kernel
theorem zd305_119 : decode zxm305.2.1 119 = .ok (.invokevirtual 447, 3) := by decide +kernel
theorem zd305_122 : decode zxm305.2.1 122 = .ok (.goto 4, 3) := by decide +kernel
theorem zd305_125 : decode zxm305.2.1 125 = .ok (.iconst (-1), 1) := by decide +kernel
theorem zd305_126 : decode zxm305.2.1 126 = .ok (.istore 10, 2) := by decide +kernel
theorem zd305_128 : decode zxm305.2.1 128 = .ok (.iload 10, 2) := by decide +kernel
theorem zd305_130 : decode zxm305.2.1 130 = .ok (.iconst (-1), 1) := by decide +kernel
theorem zd305_131 : decode zxm305.2.1 131 = .ok (.if_icmp .eq 35, 3) := by decide +kernel
theorem zd305_134 : decode zxm305.2.1 134 = .ok (.iload 10, 2) := by decide +kernel
theorem zd305_136 : decode zxm305.2.1 136 = .ok (.iload 7, 2) := by decide +kernel
theorem zd305_138 : decode zxm305.2.1 138 = .ok (.if_icmp .gt 28, 3) := by decide +kernel
theorem zd305_141 : decode zxm305.2.1 141 = .ok (.iload 10, 2) := by decide +kernel
theorem zd305_143 : decode zxm305.2.1 143 = .ok (.iload 7, 2) := by decide +kernel
theorem zd305_145 : decode zxm305.2.1 145 = .ok (.if_icmp .ne 13, 3) := by decide +kernel
theorem zd305_148 : decode zxm305.2.1 148 = .ok (.iload 8, 2) := by decide +kernel
theorem zd305_150 : decode zxm305.2.1 150 = .ok (.bipush (-2), 2) := by decide +kernel
theorem zd305_152 : decode zxm305.2.1 152 = .ok (.if_icmp .eq 6, 3) := by decide +kernel
theorem zd305_155 : decode zxm305.2.1 155 = .ok (.goto 11, 3) := by decide +kernel
theorem zd305_158 : decode zxm305.2.1 158 = .ok (.iload 10, 2) := by decide +kernel
theorem zd305_160 : decode zxm305.2.1 160 = .ok (.istore 7, 2) := by decide +kernel
theorem zd305_162 : decode zxm305.2.1 162 = .ok (.iload 9, 2) := by decide +kernel
theorem zd305_164 : decode zxm305.2.1 164 = .ok (.istore 8, 2) := by decide +kernel
theorem zd305_166 : decode zxm305.2.1 166 = .ok (.iinc 9 1, 3) := by decide +kernel
theorem zd305_169 : decode zxm305.2.1 169 = .ok (.goto (-78), 3) := by decide +kernel
theorem zd305_172 : decode zxm305.2.1 172 = .ok (.aload_n 0, 1) := by decide +kernel
theorem zd305_173 : decode zxm305.2.1 173 = .ok (.invokevirtual 437, 3) := by decide +kernel
theorem zd305_176 : decode zxm305.2.1 176 = .ok (.iload 7, 2) := by decide +kernel
theorem zd305_178 : decode zxm305.2.1 178 = .ok (.ldc_w 391, 3) := by decide +kernel
theorem zd305_181 : decode zxm305.2.1 181 = .ok (.if_icmp .ne 8, 3) := by decide +kernel
theorem zd305_184 : decode zxm305.2.1 184 = .ok (.bipush (-2), 2) := by decide +kernel
theorem zd305_186 : decode zxm305.2.1 186 = .ok (.goto 15, 3) := by decide +kernel
theorem zd305_189 : decode zxm305.2.1 189 = .ok (.iload 5, 2) := by decide +kernel
theorem zd305_191 : decode zxm305.2.1 191 = .ok (.ifCond .ne 8, 3) := by decide +kernel
theorem zd305_194 : decode zxm305.2.1 194 = .ok (.iload 7, 2) := by decide +kernel
theorem zd305_196 : decode zxm305.2.1 196 = .ok (.goto 5, 3) := by decide +kernel
theorem zd305_199 : decode zxm305.2.1 199 = .ok (.iload 8, 2) := by decide +kernel
theorem zd305_201 : decode zxm305.2.1 201 = .ok (.ireturn, 1) := by decide +kernel
theorem zt_M_fastest {x1 : Int} {x2 : Int} {x3 : Int} {x4 : Int} {x5 : Int} {f0 : Int} {g0 : (Int → Int)} {g1 : (Int → Int)} {g2 : (Int → Int)} {g3 : (Int → Int)} {g4 : (Int → Int)} {g5 : (Int → Int)} {g6 : (Int → Int)} {g7 : (Int → Int)} {g8 : (Int → Int)} {o : Int × (Int → Int) × (Int → Int) × (Int → Int) × (Int → Int)} (h : zf_M_fastest x1 x2 x3 x4 x5 f0 g0 g1 g2 g3 g4 g5 g6 g7 g8 = some o) : zv_Fn z_TB z_cl z_KX zy_M_fastest zxm305 (7, 420) [.inr 0, .inl x1, .inl x2, .inl x3, .inl x4, .inl x5] [.inl f0] [g0, g1, g2, g3, g4, g5, g6, g7, g8] (some o.1) [.inl f0] [o.2.1, o.2.2.1, g2, o.2.2.2.1, g4, g5, g6, o.2.2.2.2, g8] := zv_meth (K := (z_KF13, z_KC13, z_KL13, z_KT13, [], [], [], none)) (FT := z_FT) (MT := z_MT) (n := 6) zxp305 (z_ks13 _ (fun _ h => List.mem_cons_of_mem _ h) _ _ _ _ (fun j r h _ => by cases h)) (fun _ _ => zs_KX_p) zyw_M_fastest (fun va F G h => by obtain ⟨rfl, _⟩ := h; rfl) (fun va F G h => by obtain ⟨rfl, _⟩ := h; rfl) rfl fun good va F G hB hret hvret hP => by
  obtain ⟨rfl, rfl, rfl⟩ := hP
  have l0 : ∀ (n : Nat) (x1 : Int) (x4 : Int) (x5 : Int) (x6 : Int) (x7 : Int) (x8 : Int) (x9 : Int) (g0 : (Int → Int)) (g1 : (Int → Int)) (g3 : (Int → Int)) (g7 : (Int → Int)) (q : Int × Int × (Int → Int) × (Int → Int) × (Int → Int)), zf_M_fastest_l0 x1 x4 x6 f0 g1 g2 g4 g5 g6 g8 n x7 x8 x9 g0 g3 g7 = some q → (good 172 [.inr 0, .inr 1000, .inr 1000, .inr 1000, .inr 1000, .inl x5, .inr 1000, .inl q.1, .inl q.2.1, .inr 1000, .inr 1000] [] [.inl f0] [q.2.2.1, g1, g2, q.2.2.2.1, g4, g5, g6, q.2.2.2.2, g8]) → good 91 [.inr 0, .inl x1, .inr 1000, .inr 1000, .inl x4, .inl x5, .inl x6, .inl x7, .inl x8, .inl x9, .inr 1000] [] [.inl f0] [g0, g1, g2, g3, g4, g5, g6, g7, g8] := by
    intro n
    induction n with
    | zero => intro x1 x4 x5 x6 x7 x8 x9 g0 g1 g3 g7 q h; exact absurd (show none = some q from h) (fun h => by cases h)
    | succ n ih =>
      intro x1 x4 x5 x6 x7 x8 x9 g0 g1 g3 g7 q h hK
      replace h : zf_M_fastest_l0_b x1 x4 x6 f0 g1 g2 g4 g5 g6 g8 (zf_M_fastest_l0 x1 x4 x6 f0 g1 g2 g4 g5 g6 g8 n) x7 x8 x9 g0 g3 g7 = some q := h
      unfold zf_M_fastest_l0_b at h
      refine zv_ild hB zd305_91 rfl rfl ?_
      refine zv_con hB zd305_93 rfl ?_
      refine zv_cge hB zd305_95 rfl (fun hc13 => ?_) (fun hc13 => ?_)
      · rw [if_neg (Int.not_lt.mpr hc13)] at h
        have hq := Option.some.inj h
        subst hq
        refine zv_wk hB (L' := [.inr 0, .inr 1000, .inr 1000, .inr 1000, .inr 1000, .inl x5, .inr 1000, .inl x7, .inl x8, .inr 1000, .inr 1000]) (F' := [.inl f0]) ⟨fun _ => rfl, fun (h : zv_is (.inr 1000)) => (Nat.lt_irrefl 1000 h).elim, fun (h : zv_is (.inr 1000)) => (Nat.lt_irrefl 1000 h).elim, fun (h : zv_is (.inr 1000)) => (Nat.lt_irrefl 1000 h).elim, fun (h : zv_is (.inr 1000)) => (Nat.lt_irrefl 1000 h).elim, fun _ => rfl, fun (h : zv_is (.inr 1000)) => (Nat.lt_irrefl 1000 h).elim, fun _ => rfl, fun _ => rfl, fun (h : zv_is (.inr 1000)) => (Nat.lt_irrefl 1000 h).elim, fun (h : zv_is (.inr 1000)) => (Nat.lt_irrefl 1000 h).elim, trivial⟩ ⟨fun _ => rfl, trivial⟩ ?_
        exact hK
      · rw [if_pos hc13] at h
        refine zv_ald hB zd305_98 rfl rfl rfl ?_
        obtain ⟨r14, hr14, h⟩ := zi_bind h
        refine zv_cv hB (zv_emq (va2 := [.inr 0]) (F := [.inl f0]) (F' := [.inl f0]) (G := [g0, g1, g2, g3, g4, g5, g6, g7, g8]) (G' := [r14, g1, g2, g3, g4, g5, g6, g7, g8]) (ρ := [0, 2, 1]) (φ := []) (ψ := [1, 0]) [none] [some 1, some 0, none, none, none, none, none, none, none] zyw_M_again zyw_M_fastest zye_M_fastest (by decide +kernel) (zt_M_again hr14) trivial ⟨rfl, rfl, trivial⟩ rfl rfl rfl rfl rfl rfl rfl) zd305_99 zxt301 rfl (by decide) (by decide) rfl ?_
        refine zv_ald hB zd305_102 rfl rfl rfl ?_
        refine zv_ild hB zd305_103 rfl rfl ?_
        obtain ⟨r15, hr15, h⟩ := zi_bind h
        refine zv_cv hB (zv_emq (va2 := [.inr 0, .inl x9]) (F := [.inl f0]) (F' := [.inl f0]) (G := [r14, g1, g2, g3, g4, g5, g6, g7, g8]) (G' := [r14, g1, g2, g3, g4, g5, g6, g7, g8]) (ρ := [0, 1]) (φ := []) (ψ := [0]) [none] [some 0, none, none, none, none, none, none, none, none] zyw_M_isTold zyw_M_fastest zye_M_fastest (by decide +kernel) (zt_M_isTold hr15) trivial ⟨rfl, trivial⟩ rfl rfl rfl rfl rfl rfl rfl) zd305_105 zxt203 rfl (by decide) (by decide) rfl ?_
        refine zv_zeq hB zd305_108 rfl (fun hc16 => ?_) (fun hc16 => ?_)
        · rw [if_pos hc16] at h
          refine zv_con hB zd305_125 rfl ?_
          refine zv_ist hB zd305_126 rfl rfl rfl ?_
          refine zv_ild hB zd305_128 rfl rfl ?_
          refine zv_con hB zd305_130 rfl ?_
          refine zv_ceq hB zd305_131 rfl (fun _ => ?_) (fun hc => absurd hc (by decide))
          refine zv_iincw hB zd305_166 rfl rfl ?_
          refine zv_goto hB zd305_169 rfl ?_
          refine zv_wk hB (L' := [.inr 0, .inl x1, .inr 1000, .inr 1000, .inl x4, .inl x5, .inl x6, .inl x7, .inl x8, .inl (zi_w (x9 + 1)), .inr 1000]) (F' := [.inl f0]) ⟨fun _ => rfl, fun _ => rfl, fun (h : zv_is (.inr 1000)) => (Nat.lt_irrefl 1000 h).elim, fun (h : zv_is (.inr 1000)) => (Nat.lt_irrefl 1000 h).elim, fun _ => rfl, fun _ => rfl, fun _ => rfl, fun _ => rfl, fun _ => rfl, fun _ => rfl, fun (h : zv_is (.inr 1000)) => (Nat.lt_irrefl 1000 h).elim, trivial⟩ ⟨fun _ => rfl, trivial⟩ ?_
          exact ih _ _ _ _ _ _ _ _ _ _ _ q h hK
        · rw [if_neg hc16] at h
          refine zv_ald hB zd305_111 rfl rfl rfl ?_
          refine zv_ild hB zd305_112 rfl rfl ?_
          refine zv_ild hB zd305_113 rfl rfl ?_
          refine zv_ild hB zd305_115 rfl rfl ?_
          refine zv_ild hB zd305_117 rfl rfl ?_
          obtain ⟨r18, hr18, h⟩ := zi_bind h
          refine zv_cv hB (zv_emq (va2 := [.inr 0, .inl x1, .inl x9, .inl x6, .inl x4]) (F := [.inl f0]) (F' := [.inl f0]) (G := [r14, g1, g2, g3, g4, g5, g6, g7, g8]) (G' := [r18.2.1, g1, g2, r18.2.2.1, g4, g5, g6, r18.2.2.2, g8]) (ρ := [0, 1, 3, 4, 5, 6, 7, 8, 9]) (φ := [0]) (ψ := [0, 2, 3, 4, 5, 6, 7, 8]) [some 0] [some 0, none, some 1, some 2, some 3, some 4, some 5, some 6, some 7] zyw_M_comesBy zyw_M_fastest zye_M_fastest (by decide +kernel) (zt_M_comesBy hr18) ⟨⟨_, rfl, fun _ => rfl⟩, trivial⟩ ⟨rfl, rfl, rfl, rfl, rfl, rfl, rfl, rfl, trivial⟩ rfl rfl rfl rfl rfl rfl rfl) zd305_119 zxt306 rfl (by decide) (by decide) rfl ?_
          refine zv_goto hB zd305_122 rfl ?_
          refine zv_ist hB zd305_126 rfl rfl rfl ?_
          refine zv_ild hB zd305_128 rfl rfl ?_
          refine zv_con hB zd305_130 rfl ?_
          refine zv_ceq hB zd305_131 rfl (fun hc19 => ?_) (fun hc19 => ?_)
          · rw [if_pos hc19] at h
            refine zv_iincw hB zd305_166 rfl rfl ?_
            refine zv_goto hB zd305_169 rfl ?_
            refine zv_wk hB (L' := [.inr 0, .inl x1, .inr 1000, .inr 1000, .inl x4, .inl x5, .inl x6, .inl x7, .inl x8, .inl (zi_w (x9 + 1)), .inr 1000]) (F' := [.inl f0]) ⟨fun _ => rfl, fun _ => rfl, fun (h : zv_is (.inr 1000)) => (Nat.lt_irrefl 1000 h).elim, fun (h : zv_is (.inr 1000)) => (Nat.lt_irrefl 1000 h).elim, fun _ => rfl, fun _ => rfl, fun _ => rfl, fun _ => rfl, fun _ => rfl, fun _ => rfl, fun (h : zv_is (.inr 1000)) => (Nat.lt_irrefl 1000 h).elim, trivial⟩ ⟨fun _ => rfl, trivial⟩ ?_
            exact ih _ _ _ _ _ _ _ _ _ _ _ q h hK
          · rw [if_neg hc19] at h
            refine zv_ild hB zd305_134 rfl rfl ?_
            refine zv_ild hB zd305_136 rfl rfl ?_
            refine zv_cgt hB zd305_138 rfl (fun hc20 => ?_) (fun hc20 => ?_)
            · rw [if_pos hc20] at h
              refine zv_iincw hB zd305_166 rfl rfl ?_
              refine zv_goto hB zd305_169 rfl ?_
              refine zv_wk hB (L' := [.inr 0, .inl x1, .inr 1000, .inr 1000, .inl x4, .inl x5, .inl x6, .inl x7, .inl x8, .inl (zi_w (x9 + 1)), .inr 1000]) (F' := [.inl f0]) ⟨fun _ => rfl, fun _ => rfl, fun (h : zv_is (.inr 1000)) => (Nat.lt_irrefl 1000 h).elim, fun (h : zv_is (.inr 1000)) => (Nat.lt_irrefl 1000 h).elim, fun _ => rfl, fun _ => rfl, fun _ => rfl, fun _ => rfl, fun _ => rfl, fun _ => rfl, fun (h : zv_is (.inr 1000)) => (Nat.lt_irrefl 1000 h).elim, trivial⟩ ⟨fun _ => rfl, trivial⟩ ?_
              exact ih _ _ _ _ _ _ _ _ _ _ _ q h hK
            · rw [if_neg (Int.not_lt.mpr hc20)] at h
              refine zv_ild hB zd305_141 rfl rfl ?_
              refine zv_ild hB zd305_143 rfl rfl ?_
              refine zv_cne hB zd305_145 rfl (fun hc21 => ?_) (fun hc21 => ?_)
              · rw [if_neg hc21] at h
                refine zv_ild hB zd305_158 rfl rfl ?_
                refine zv_ist hB zd305_160 rfl rfl rfl ?_
                refine zv_ild hB zd305_162 rfl rfl ?_
                refine zv_ist hB zd305_164 rfl rfl rfl ?_
                refine zv_iincw hB zd305_166 rfl rfl ?_
                refine zv_goto hB zd305_169 rfl ?_
                refine zv_wk hB (L' := [.inr 0, .inl x1, .inr 1000, .inr 1000, .inl x4, .inl x5, .inl x6, .inl r18.1, .inl x9, .inl (zi_w (x9 + 1)), .inr 1000]) (F' := [.inl f0]) ⟨fun _ => rfl, fun _ => rfl, fun (h : zv_is (.inr 1000)) => (Nat.lt_irrefl 1000 h).elim, fun (h : zv_is (.inr 1000)) => (Nat.lt_irrefl 1000 h).elim, fun _ => rfl, fun _ => rfl, fun _ => rfl, fun _ => rfl, fun _ => rfl, fun _ => rfl, fun (h : zv_is (.inr 1000)) => (Nat.lt_irrefl 1000 h).elim, trivial⟩ ⟨fun _ => rfl, trivial⟩ ?_
                exact ih _ _ _ _ _ _ _ _ _ _ _ q h hK
              · rw [if_pos hc21] at h
                refine zv_ild hB zd305_148 rfl rfl ?_
                refine zv_con hB zd305_150 rfl ?_
                refine zv_ceq hB zd305_152 rfl (fun hc22 => ?_) (fun hc22 => ?_)
                · rw [if_pos hc22] at h
                  refine zv_ild hB zd305_158 rfl rfl ?_
                  refine zv_ist hB zd305_160 rfl rfl rfl ?_
                  refine zv_ild hB zd305_162 rfl rfl ?_
                  refine zv_ist hB zd305_164 rfl rfl rfl ?_
                  refine zv_iincw hB zd305_166 rfl rfl ?_
                  refine zv_goto hB zd305_169 rfl ?_
                  refine zv_wk hB (L' := [.inr 0, .inl x1, .inr 1000, .inr 1000, .inl x4, .inl x5, .inl x6, .inl r18.1, .inl x9, .inl (zi_w (x9 + 1)), .inr 1000]) (F' := [.inl f0]) ⟨fun _ => rfl, fun _ => rfl, fun (h : zv_is (.inr 1000)) => (Nat.lt_irrefl 1000 h).elim, fun (h : zv_is (.inr 1000)) => (Nat.lt_irrefl 1000 h).elim, fun _ => rfl, fun _ => rfl, fun _ => rfl, fun _ => rfl, fun _ => rfl, fun _ => rfl, fun (h : zv_is (.inr 1000)) => (Nat.lt_irrefl 1000 h).elim, trivial⟩ ⟨fun _ => rfl, trivial⟩ ?_
                  exact ih _ _ _ _ _ _ _ _ _ _ _ q h hK
                · rw [if_neg hc22] at h
                  refine zv_goto hB zd305_155 rfl ?_
                  refine zv_iincw hB zd305_166 rfl rfl ?_
                  refine zv_goto hB zd305_169 rfl ?_
                  refine zv_wk hB (L' := [.inr 0, .inl x1, .inr 1000, .inr 1000, .inl x4, .inl x5, .inl x6, .inl x7, .inl x8, .inl (zi_w (x9 + 1)), .inr 1000]) (F' := [.inl f0]) ⟨fun _ => rfl, fun _ => rfl, fun (h : zv_is (.inr 1000)) => (Nat.lt_irrefl 1000 h).elim, fun (h : zv_is (.inr 1000)) => (Nat.lt_irrefl 1000 h).elim, fun _ => rfl, fun _ => rfl, fun _ => rfl, fun _ => rfl, fun _ => rfl, fun _ => rfl, fun (h : zv_is (.inr 1000)) => (Nat.lt_irrefl 1000 h).elim, trivial⟩ ⟨fun _ => rfl, trivial⟩ ?_
                  exact ih _ _ _ _ _ _ _ _ _ _ _ q h hK
  unfold zf_M_fastest at h
  refine zv_ald hB zd305_0 rfl rfl rfl ?_
  refine zv_ild hB zd305_1 rfl rfl ?_
  obtain ⟨r1, hr1, h⟩ := zi_bind h
  refine zv_cv hB (zv_emq (va2 := [.inr 0, .inl x1]) (F := [.inl f0]) (F' := [.inl f0]) (G := [g0, g1, g2, g3, g4, g5, g6, g7, g8]) (G' := [g0, g1, g2, g3, g4, g5, g6, g7, g8]) (ρ := [0, 1]) (φ := []) (ψ := [0]) [none] [some 0, none, none, none, none, none, none, none, none] zyw_M_isShip zyw_M_fastest zye_M_fastest (by decide +kernel) (zt_M_isShip hr1) trivial ⟨rfl, trivial⟩ rfl rfl rfl rfl rfl rfl rfl) zd305_2 zxt210 rfl (by decide) (by decide) rfl ?_
  refine zv_zeq hB zd305_5 rfl (fun hc2 => ?_) (fun hc2 => ?_)
  · rw [if_pos hc2] at h
    refine zv_con hB zd305_47 rfl ?_
    have hw := Option.some.inj h
    subst hw
    exact hret _ _ _ _ _ zd305_48 (by trivial) ⟨rfl, rfl, rfl⟩
  · rw [if_neg hc2] at h
    refine zv_ild hB zd305_8 rfl rfl ?_
    refine zv_ild hB zd305_9 rfl rfl ?_
    obtain ⟨r3, hr3, h⟩ := zi_bind h
    refine zv_cs hB (zv_emq (va2 := [.inl x2, .inl x3]) (F := [.inl f0]) (F' := [.inl f0]) (G := [g0, g1, g2, g3, g4, g5, g6, g7, g8]) (G' := [g0, g1, g2, g3, g4, g5, g6, g7, g8]) (ρ := []) (φ := []) (ψ := []) [none] [none, none, none, none, none, none, none, none, none] zyw_M_isPlace zyw_M_fastest zye_M_fastest (by decide +kernel) (zt_M_isPlace hr3) trivial trivial rfl rfl rfl rfl rfl rfl rfl) zd305_10 zxt201 rfl (by decide) (by decide) rfl ?_
    refine zv_zeq hB zd305_13 rfl (fun hc4 => ?_) (fun hc4 => ?_)
    · rw [if_pos hc4] at h
      refine zv_con hB zd305_47 rfl ?_
      have hw := Option.some.inj h
      subst hw
      exact hret _ _ _ _ _ zd305_48 (by trivial) ⟨rfl, rfl, rfl⟩
    · rw [if_neg hc4] at h
      refine zv_ild hB zd305_16 rfl rfl ?_
      refine zv_con hB zd305_18 rfl ?_
      refine zv_con hB zd305_19 rfl ?_
      obtain ⟨r5, hr5, h⟩ := zi_bind h
      refine zv_cs hB (zv_emq (va2 := [.inl x4, .inl 1, .inl 48]) (F := [.inl f0]) (F' := [.inl f0]) (G := [g0, g1, g2, g3, g4, g5, g6, g7, g8]) (G' := [g0, g1, g2, g3, g4, g5, g6, g7, g8]) (ρ := []) (φ := []) (ψ := []) [none] [none, none, none, none, none, none, none, none, none] zyw_M_in zyw_M_fastest zye_M_fastest (by decide +kernel) (zt_M_in hr5) trivial trivial rfl rfl rfl rfl rfl rfl rfl) zd305_21 zxt200 rfl (by decide) (by decide) rfl ?_
      refine zv_zeq hB zd305_24 rfl (fun hc6 => ?_) (fun hc6 => ?_)
      · rw [if_pos hc6] at h
        refine zv_con hB zd305_47 rfl ?_
        have hw := Option.some.inj h
        subst hw
        exact hret _ _ _ _ _ zd305_48 (by trivial) ⟨rfl, rfl, rfl⟩
      · rw [if_neg hc6] at h
        refine zv_ild hB zd305_27 rfl rfl ?_
        refine zv_con hB zd305_29 rfl ?_
        refine zv_con hB zd305_30 rfl ?_
        obtain ⟨r7, hr7, h⟩ := zi_bind h
        refine zv_cs hB (zv_emq (va2 := [.inl x5, .inl 0, .inl 1]) (F := [.inl f0]) (F' := [.inl f0]) (G := [g0, g1, g2, g3, g4, g5, g6, g7, g8]) (G' := [g0, g1, g2, g3, g4, g5, g6, g7, g8]) (ρ := []) (φ := []) (ψ := []) [none] [none, none, none, none, none, none, none, none, none] zyw_M_in zyw_M_fastest zye_M_fastest (by decide +kernel) (zt_M_in hr7) trivial trivial rfl rfl rfl rfl rfl rfl rfl) zd305_31 zxt200 rfl (by decide) (by decide) rfl ?_
        refine zv_zeq hB zd305_34 rfl (fun hc8 => ?_) (fun hc8 => ?_)
        · rw [if_pos hc8] at h
          refine zv_con hB zd305_47 rfl ?_
          have hw := Option.some.inj h
          subst hw
          exact hret _ _ _ _ _ zd305_48 (by trivial) ⟨rfl, rfl, rfl⟩
        · rw [if_neg hc8] at h
          refine zv_ald hB zd305_37 rfl rfl rfl ?_
          refine zv_getr hB zd305_38 rfl ?_
          refine zv_con hB zd305_41 rfl ?_
          refine zv_iald hB zd305_43 rfl rfl (by decide) (by decide) (fun _ _ => ?_)
          refine zv_zne hB zd305_44 rfl (fun hc9 => ?_) (fun hc9 => ?_)
          · rw [if_neg hc9] at h
            refine zv_con hB zd305_49 rfl ?_
            refine zv_ild hB zd305_51 rfl rfl ?_
            refine zv_mulw hB zd305_52 ?_
            refine zv_ild hB zd305_53 rfl rfl ?_
            refine zv_addw hB zd305_54 ?_
            refine zv_ist hB zd305_55 rfl rfl rfl ?_
            refine zv_ald hB zd305_57 rfl rfl rfl ?_
            refine zv_getr hB zd305_58 rfl ?_
            refine zv_con hB zd305_61 rfl ?_
            refine zv_ild hB zd305_63 rfl rfl ?_
            refine zv_addw hB zd305_64 ?_
            obtain ⟨c10, h⟩ := zi_if h
            refine zv_iald hB zd305_65 rfl rfl (zi_ix_ok c10).1 (zi_ix_ok c10).2 (fun _ _ => ?_)
            refine zv_ild hB zd305_66 rfl rfl ?_
            refine zv_cne hB zd305_68 rfl (fun hc11 => ?_) (fun hc11 => ?_)
            · rw [if_neg hc11] at h
              refine zv_con (n := 1000000000) hB zd305_75 (by decide +kernel) ?_
              refine zv_ist hB zd305_78 rfl rfl rfl ?_
              refine zv_con hB zd305_80 rfl ?_
              refine zv_ist hB zd305_82 rfl rfl rfl ?_
              refine zv_ald hB zd305_84 rfl rfl rfl ?_
              obtain ⟨r12, hr12, h⟩ := zi_bind h
              refine zv_cv hB (zv_emq (va2 := [.inr 0]) (F := [.inl f0]) (F' := [.inl f0]) (G := [g0, g1, g2, g3, g4, g5, g6, g7, g8]) (G' := [g0, r12, g2, g3, g4, g5, g6, g7, g8]) (ρ := [0, 1, 2]) (φ := []) (ψ := [0, 1]) [none] [some 0, some 1, none, none, none, none, none, none, none] zyw_M_begins zyw_M_fastest zye_M_fastest (by decide +kernel) (zt_M_begins hr12) trivial ⟨rfl, rfl, trivial⟩ rfl rfl rfl rfl rfl rfl rfl) zd305_85 zxt299 rfl (by decide) (by decide) rfl ?_
              refine zv_con hB zd305_88 rfl ?_
              refine zv_ist hB zd305_89 rfl rfl rfl ?_
              obtain ⟨q23, hq23, h⟩ := zi_bind h
              refine zv_wk hB (L' := [.inr 0, .inl x1, .inr 1000, .inr 1000, .inl x4, .inl x5, .inl (zi_w ((zi_w (24 * x3)) + x2)), .inl 1000000000, .inl (-2), .inl 0, .inr 1000]) (F' := [.inl f0]) ⟨fun _ => rfl, fun _ => rfl, fun (h : zv_is (.inr 1000)) => (Nat.lt_irrefl 1000 h).elim, fun (h : zv_is (.inr 1000)) => (Nat.lt_irrefl 1000 h).elim, fun _ => rfl, fun _ => rfl, fun _ => rfl, fun _ => rfl, fun _ => rfl, fun _ => rfl, fun (h : zv_is (.inr 1000)) => (Nat.lt_irrefl 1000 h).elim, trivial⟩ ⟨fun _ => rfl, trivial⟩ ?_
              refine l0 _ _ _ _ _ _ _ _ _ _ _ _ q23 hq23 ?_
              show good 172 [.inr 0, .inr 1000, .inr 1000, .inr 1000, .inr 1000, .inl x5, .inr 1000, .inl q23.1, .inl q23.2.1, .inr 1000, .inr 1000] [] [.inl f0] [q23.2.2.1, r12, g2, q23.2.2.2.1, g4, g5, g6, q23.2.2.2.2, g8]
              refine zv_ald hB zd305_172 rfl rfl rfl ?_
              obtain ⟨r24, hr24, h⟩ := zi_bind h
              refine zv_cv hB (zv_emq (va2 := [.inr 0]) (F := [.inl f0]) (F' := [.inl f0]) (G := [q23.2.2.1, r12, g2, q23.2.2.2.1, g4, g5, g6, q23.2.2.2.2, g8]) (G' := [r24, r12, g2, q23.2.2.2.1, g4, g5, g6, q23.2.2.2.2, g8]) (ρ := [0, 2, 1]) (φ := []) (ψ := [1, 0]) [none] [some 1, some 0, none, none, none, none, none, none, none] zyw_M_again zyw_M_fastest zye_M_fastest (by decide +kernel) (zt_M_again hr24) trivial ⟨rfl, rfl, trivial⟩ rfl rfl rfl rfl rfl rfl rfl) zd305_173 zxt301 rfl (by decide) (by decide) rfl ?_
              refine zv_ild hB zd305_176 rfl rfl ?_
              refine zv_con (n := 1000000000) hB zd305_178 (by decide +kernel) ?_
              refine zv_cne hB zd305_181 rfl (fun hc25 => ?_) (fun hc25 => ?_)
              · rw [if_neg hc25] at h
                refine zv_ild hB zd305_189 rfl rfl ?_
                refine zv_zne hB zd305_191 rfl (fun hc26 => ?_) (fun hc26 => ?_)
                · rw [if_neg hc26] at h
                  refine zv_ild hB zd305_199 rfl rfl ?_
                  have hw := Option.some.inj h
                  subst hw
                  exact hret _ _ _ _ _ zd305_201 (by trivial) ⟨rfl, rfl, rfl⟩
                · rw [if_pos hc26] at h
                  refine zv_ild hB zd305_194 rfl rfl ?_
                  refine zv_goto hB zd305_196 rfl ?_
                  have hw := Option.some.inj h
                  subst hw
                  exact hret _ _ _ _ _ zd305_201 (by trivial) ⟨rfl, rfl, rfl⟩
              · rw [if_pos hc25] at h
                refine zv_con hB zd305_184 rfl ?_
                refine zv_goto hB zd305_186 rfl ?_
                have hw := Option.some.inj h
                subst hw
                exact hret _ _ _ _ _ zd305_201 (by trivial) ⟨rfl, rfl, rfl⟩
            · rw [if_pos hc11] at h
              refine zv_con hB zd305_71 rfl ?_
              refine zv_goto hB zd305_72 rfl ?_
              refine zv_ist hB zd305_78 rfl rfl rfl ?_
              refine zv_con hB zd305_80 rfl ?_
              refine zv_ist hB zd305_82 rfl rfl rfl ?_
              refine zv_ald hB zd305_84 rfl rfl rfl ?_
              obtain ⟨r27, hr27, h⟩ := zi_bind h
              refine zv_cv hB (zv_emq (va2 := [.inr 0]) (F := [.inl f0]) (F' := [.inl f0]) (G := [g0, g1, g2, g3, g4, g5, g6, g7, g8]) (G' := [g0, r27, g2, g3, g4, g5, g6, g7, g8]) (ρ := [0, 1, 2]) (φ := []) (ψ := [0, 1]) [none] [some 0, some 1, none, none, none, none, none, none, none] zyw_M_begins zyw_M_fastest zye_M_fastest (by decide +kernel) (zt_M_begins hr27) trivial ⟨rfl, rfl, trivial⟩ rfl rfl rfl rfl rfl rfl rfl) zd305_85 zxt299 rfl (by decide) (by decide) rfl ?_
              refine zv_con hB zd305_88 rfl ?_
              refine zv_ist hB zd305_89 rfl rfl rfl ?_
              obtain ⟨q28, hq28, h⟩ := zi_bind h
              refine zv_wk hB (L' := [.inr 0, .inl x1, .inr 1000, .inr 1000, .inl x4, .inl x5, .inl (zi_w ((zi_w (24 * x3)) + x2)), .inl 0, .inl (-2), .inl 0, .inr 1000]) (F' := [.inl f0]) ⟨fun _ => rfl, fun _ => rfl, fun (h : zv_is (.inr 1000)) => (Nat.lt_irrefl 1000 h).elim, fun (h : zv_is (.inr 1000)) => (Nat.lt_irrefl 1000 h).elim, fun _ => rfl, fun _ => rfl, fun _ => rfl, fun _ => rfl, fun _ => rfl, fun _ => rfl, fun (h : zv_is (.inr 1000)) => (Nat.lt_irrefl 1000 h).elim, trivial⟩ ⟨fun _ => rfl, trivial⟩ ?_
              refine l0 _ _ _ _ _ _ _ _ _ _ _ _ q28 hq28 ?_
              show good 172 [.inr 0, .inr 1000, .inr 1000, .inr 1000, .inr 1000, .inl x5, .inr 1000, .inl q28.1, .inl q28.2.1, .inr 1000, .inr 1000] [] [.inl f0] [q28.2.2.1, r27, g2, q28.2.2.2.1, g4, g5, g6, q28.2.2.2.2, g8]
              refine zv_ald hB zd305_172 rfl rfl rfl ?_
              obtain ⟨r29, hr29, h⟩ := zi_bind h
              refine zv_cv hB (zv_emq (va2 := [.inr 0]) (F := [.inl f0]) (F' := [.inl f0]) (G := [q28.2.2.1, r27, g2, q28.2.2.2.1, g4, g5, g6, q28.2.2.2.2, g8]) (G' := [r29, r27, g2, q28.2.2.2.1, g4, g5, g6, q28.2.2.2.2, g8]) (ρ := [0, 2, 1]) (φ := []) (ψ := [1, 0]) [none] [some 1, some 0, none, none, none, none, none, none, none] zyw_M_again zyw_M_fastest zye_M_fastest (by decide +kernel) (zt_M_again hr29) trivial ⟨rfl, rfl, trivial⟩ rfl rfl rfl rfl rfl rfl rfl) zd305_173 zxt301 rfl (by decide) (by decide) rfl ?_
              refine zv_ild hB zd305_176 rfl rfl ?_
              refine zv_con (n := 1000000000) hB zd305_178 (by decide +kernel) ?_
              refine zv_cne hB zd305_181 rfl (fun hc30 => ?_) (fun hc30 => ?_)
              · rw [if_neg hc30] at h
                refine zv_ild hB zd305_189 rfl rfl ?_
                refine zv_zne hB zd305_191 rfl (fun hc31 => ?_) (fun hc31 => ?_)
                · rw [if_neg hc31] at h
                  refine zv_ild hB zd305_199 rfl rfl ?_
                  have hw := Option.some.inj h
                  subst hw
                  exact hret _ _ _ _ _ zd305_201 (by trivial) ⟨rfl, rfl, rfl⟩
                · rw [if_pos hc31] at h
                  refine zv_ild hB zd305_194 rfl rfl ?_
                  refine zv_goto hB zd305_196 rfl ?_
                  have hw := Option.some.inj h
                  subst hw
                  exact hret _ _ _ _ _ zd305_201 (by trivial) ⟨rfl, rfl, rfl⟩
              · rw [if_pos hc30] at h
                refine zv_con hB zd305_184 rfl ?_
                refine zv_goto hB zd305_186 rfl ?_
                have hw := Option.some.inj h
                subst hw
                exact hret _ _ _ _ _ zd305_201 (by trivial) ⟨rfl, rfl, rfl⟩
          · rw [if_pos hc9] at h
            refine zv_con hB zd305_47 rfl ?_
            have hw := Option.some.inj h
            subst hw
            exact hret _ _ _ _ _ zd305_48 (by trivial) ⟨rfl, rfl, rfl⟩
/-! M_comesByTwo (IIIIII)Z -/
-- names: 0 StarTalesModel('arg', 0), 1 (0, 422)(0, 12, 1), 2 (0, 422)(0, 12, 0), 3 (0, 14)(0, 12, 21), 4 (0, 13)(0, 12, 26), 5 (0, 14)(0, 12, 23), 6 (0, 14)(0, 12, 24), 7 (0, 220)(0, 12, 20), 8 (0, 220)(0, 12, 25), 9 (0, 14)(0, 12, 22)
-- fields: f0 = 0.clauses_; arrays: g0 = 1, g1 = 2, g2 = 3, g3 = 4, g4 = 5, g5 = 6, g6 = 7, g7 = 8, g8 = 9; out: [('ret', None), ('g', 1), ('g', 3), ('g', 7)]
abbrev zy_M_comesByTwo : zNL := (10, [(0, 12)], [(0, 12, 13, 0)], [(0, 12, 1, 1), (0, 12, 0, 2), (0, 12, 21, 3), (0, 12, 26, 4), (0, 12, 23, 5), (0, 12, 24, 6), (0, 12, 20, 7), (0, 12, 25, 8), (0, 12, 22, 9)], [(1, 0, 422, 0), (2, 0, 422, 1), (3, 0, 14, 2), (4, 0, 13, 3), (5, 0, 14, 4), (6, 0, 14, 5), (7, 0, 220, 6), (8, 0, 220, 7), (9, 0, 14, 8)])
theorem zyw_M_comesByTwo : zv_wf zy_M_comesByTwo = true := by decide +kernel
theorem zye_M_comesByTwo : zv_ek2 zy_M_comesByTwo = true := by decide +kernel
def zf_M_comesByTwo_l0_b (x1 : Int) (x3 : Int) (x4 : Int) (f0 : Int) (g2 : (Int → Int)) (g4 : (Int → Int)) (g5 : (Int → Int)) (g6 : (Int → Int)) (g8 : (Int → Int)) (rec : Int → (Int → Int) → (Int → Int) → (Int → Int) → Option ((Int → Int) × (Int → Int) × (Int → Int))) (x7 : Int) (g1 : (Int → Int)) (g3 : (Int → Int)) (g7 : (Int → Int)) : Option ((Int → Int) × (Int → Int) × (Int → Int)) := if x7 < x4 then ((zf_M_steers x1 x3 0 f0 g1 g2 g3 g4 g5 g6 g7 g8).bind fun r3 => (rec (zi_w (x7 + 1)) r3.1 r3.2.1 r3.2.2)) else (some (g1, g3, g7))
def zf_M_comesByTwo_l0 (x1 : Int) (x3 : Int) (x4 : Int) (f0 : Int) (g2 : (Int → Int)) (g4 : (Int → Int)) (g5 : (Int → Int)) (g6 : (Int → Int)) (g8 : (Int → Int)) : Nat → Int → (Int → Int) → (Int → Int) → (Int → Int) → Option ((Int → Int) × (Int → Int) × (Int → Int))
  | 0, _, _, _, _ => none
  | n + 1, x7, g1, g3, g7 => zf_M_comesByTwo_l0_b x1 x3 x4 f0 g2 g4 g5 g6 g8 (zf_M_comesByTwo_l0 x1 x3 x4 f0 g2 g4 g5 g6 g8 n) x7 g1 g3 g7
def zf_M_comesByTwo_l1_b (x1 : Int) (x5 : Int) (x6 : Int) (f0 : Int) (g2 : (Int → Int)) (g4 : (Int → Int)) (g5 : (Int → Int)) (g6 : (Int → Int)) (g8 : (Int → Int)) (rec : Int → (Int → Int) → (Int → Int) → (Int → Int) → Option ((Int → Int) × (Int → Int) × (Int → Int))) (x7 : Int) (g1 : (Int → Int)) (g3 : (Int → Int)) (g7 : (Int → Int)) : Option ((Int → Int) × (Int → Int) × (Int → Int)) := if x7 < x6 then ((zf_M_steers x1 x5 0 f0 g1 g2 g3 g4 g5 g6 g7 g8).bind fun r6 => (rec (zi_w (x7 + 1)) r6.1 r6.2.1 r6.2.2)) else (some (g1, g3, g7))
def zf_M_comesByTwo_l1 (x1 : Int) (x5 : Int) (x6 : Int) (f0 : Int) (g2 : (Int → Int)) (g4 : (Int → Int)) (g5 : (Int → Int)) (g6 : (Int → Int)) (g8 : (Int → Int)) : Nat → Int → (Int → Int) → (Int → Int) → (Int → Int) → Option ((Int → Int) × (Int → Int) × (Int → Int))
  | 0, _, _, _, _ => none
  | n + 1, x7, g1, g3, g7 => zf_M_comesByTwo_l1_b x1 x5 x6 f0 g2 g4 g5 g6 g8 (zf_M_comesByTwo_l1 x1 x5 x6 f0 g2 g4 g5 g6 g8 n) x7 g1 g3 g7
def zf_M_comesByTwo (x1 : Int) (x2 : Int) (x3 : Int) (x4 : Int) (x5 : Int) (x6 : Int) (f0 : Int) (g0 : (Int → Int)) (g1 : (Int → Int)) (g2 : (Int → Int)) (g3 : (Int → Int)) (g4 : (Int → Int)) (g5 : (Int → Int)) (g6 : (Int → Int)) (g7 : (Int → Int)) (g8 : (Int → Int)) : Option (Int × (Int → Int) × (Int → Int) × (Int → Int)) := (zf_M_again g0 g1).bind fun r1 => ((zf_M_comesByTwo_l0 x1 x3 x4 f0 g2 g4 g5 g6 g8 zi_fu 0 r1 g3 g7).bind fun q4 => ((zf_M_comesByTwo_l1 x1 x5 x6 f0 g2 g4 g5 g6 g8 zi_fu 0 q4.1 q4.2.1 q4.2.2).bind fun q7 => (cond (zi_ix (zi_w (120 + x1)) 422) (if (q7.1 (zi_w (120 + x1))) = x2 then (some (1, q7.1, q7.2.1, q7.2.2)) else (some (0, q7.1, q7.2.1, q7.2.2))) none)))
theorem zd309_0 : decode zxm309.2.1 0 = .ok (.aload_n 0, 1) := by decide +kernel
theorem zd309_1 : decode zxm309.2.1 1 = .ok (.invokevirtual 437, 3) := by decide +kernel
theorem zd309_4 : decode zxm309.2.1 4 = .ok (.iconst 0, 1) := by decide +kernel
theorem zd309_5 : decode zxm309.2.1 5 = .ok (.istore 7, 2) := by decide +kernel
theorem zd309_7 : decode zxm309.2.1 7 = .ok (.iload 7, 2) := by decide +kernel
theorem zd309_9 : decode zxm309.2.1 9 = .ok (.iload 4, 2) := by decide +kernel
theorem zd309_11 : decode zxm309.2.1 11 = .ok (.if_icmp .ge 16, 3) := by decide +kernel
theorem zd309_14 : decode zxm309.2.1 14 = .ok (.aload_n 0, 1) := by decide +kernel
theorem zd309_15 : decode zxm309.2.1 15 = .ok (.iload_n 1, 1) := by decide +kernel
theorem zd309_16 : decode zxm309.2.1 16 = .ok (.iload_n 3, 1) := by decide +kernel
theorem zd309_17 : decode zxm309.2.1 17 = .ok (.iconst 0, 1) := by decide +kernel
theorem zd309_18 : decode zxm309.2.1 18 = .ok (.invokevirtual 430, 3) := by decide +kernel
theorem zd309_21 : decode zxm309.2.1 21 = .ok (.iinc 7 1, 3) := by decide +kernel
theorem zd309_24 : decode zxm309.2.1 24 = .ok (.goto (-17), 3) := by decide +kernel
theorem zd309_27 : decode zxm309.2.1 27 = .ok (.iconst 0, 1) := by decide +kernel
theorem zd309_28 : decode zxm309.2.1 28 = .ok (.istore 7, 2) := by decide +kernel
theorem zd309_30 : decode zxm309.2.1 30 = .ok (.iload 7, 2) := by decide +kernel
theorem zd309_32 : decode zxm309.2.1 32 = .ok (.iload 6, 2) := by decide +kernel
theorem zd309_34 : decode zxm309.2.1 34 = .ok (.if_icmp .ge 17, 3) := by decide +kernel
theorem zd309_37 : decode zxm309.2.1 37 = .ok (.aload_n 0, 1) := by decide +kernel
theorem zd309_38 : decode zxm309.2.1 38 = .ok (.iload_n 1, 1) := by decide +kernel
theorem zd309_39 : decode zxm309.2.1 39 = .ok (.iload 5, 2) := by decide +kernel
theorem zd309_41 : decode zxm309.2.1 41 = .ok (.iconst 0, 1) := by decide +kernel
theorem zd309_42 : decode zxm309.2.1 42 = .ok (.invokevirtual 430, 3) := by decide +kernel
theorem zd309_45 : decode zxm309.2.1 45 = .ok (.iinc 7 1, 3) := by decide +kernel
theorem zd309_48 : decode zxm309.2.1 48 = .ok (.goto (-18), 3) := by decide +kernel
theorem zd309_51 : decode zxm309.2.1 51 = .ok (.aload_n 0, 1) := by decide +kernel
theorem zd309_52 : decode zxm309.2.1 52 = .ok (.getfield 7, 3) := by decide +kernel
theorem zd309_55 : decode zxm309.2.1 55 = .ok (.bipush 120, 2) := by decide +kernel
theorem zd309_57 : decode zxm309.2.1 57 = .ok (.iload_n 1, 1) := by decide +kernel
theorem zd309_58 : decode zxm309.2.1 58 = .ok (.iadd, 1) := by decide +kernel
theorem zd309_59 : decode zxm309.2.1 59 = .ok (.iaload, 1) := by decide +kernel
theorem zd309_60 : decode zxm309.2.1 60 = .ok (.iload_n 2, 1) := by decide +kernel
theorem zd309_61 : decode zxm309.2.1 61 = .ok (.if_icmp .ne 7, 3) := by decide +kernel
theorem zd309_64 : decode zxm309.2.1 64 = .ok (.iconst 1, 1) := by decide +kernel
theorem zd309_65 : decode zxm309.2.1 65 = .ok (.goto 4, 3) := by decide +kernel
theorem zd309_68 : decode zxm309.2.1 68 = .ok (.iconst 0, 1) := by decide +kernel
theorem zd309_69 : decode zxm309.2.1 69 = .ok (.ireturn, 1) := by decide +kernel
theorem zt_M_comesByTwo {x1 : Int} {x2 : Int} {x3 : Int} {x4 : Int} {x5 : Int} {x6 : Int} {f0 : Int} {g0 : (Int → Int)} {g1 : (Int → Int)} {g2 : (Int → Int)} {g3 : (Int → Int)} {g4 : (Int → Int)} {g5 : (Int → Int)} {g6 : (Int → Int)} {g7 : (Int → Int)} {g8 : (Int → Int)} {o : Int × (Int → Int) × (Int → Int) × (Int → Int)} (h : zf_M_comesByTwo x1 x2 x3 x4 x5 x6 f0 g0 g1 g2 g3 g4 g5 g6 g7 g8 = some o) : zv_Fn z_TB z_cl z_KX zy_M_comesByTwo zxm309 (6, 360) [.inr 0, .inl x1, .inl x2, .inl x3, .inl x4, .inl x5, .inl x6] [.inl f0] [g0, g1, g2, g3, g4, g5, g6, g7, g8] (some o.1) [.inl f0] [g0, o.2.1, g2, o.2.2.1, g4, g5, g6, o.2.2.2, g8] := zv_meth (K := (z_KF13, z_KC13, z_KL13, z_KT13, [], [], [], none)) (FT := z_FT) (MT := z_MT) (n := 7) zxp309 (z_ks13 _ (fun _ h => List.mem_cons_of_mem _ h) _ _ _ _ (fun j r h _ => by cases h)) (fun _ _ => zs_KX_p) zyw_M_comesByTwo (fun va F G h => by obtain ⟨rfl, _⟩ := h; rfl) (fun va F G h => by obtain ⟨rfl, _⟩ := h; rfl) rfl fun good va F G hB hret hvret hP => by
  obtain ⟨rfl, rfl, rfl⟩ := hP
  have l0 : ∀ (n : Nat) (x1 : Int) (x2 : Int) (x3 : Int) (x4 : Int) (x5 : Int) (x6 : Int) (x7 : Int) (g1 : (Int → Int)) (g3 : (Int → Int)) (g7 : (Int → Int)) (q : (Int → Int) × (Int → Int) × (Int → Int)), zf_M_comesByTwo_l0 x1 x3 x4 f0 g2 g4 g5 g6 g8 n x7 g1 g3 g7 = some q → (good 27 [.inr 0, .inl x1, .inl x2, .inr 1000, .inr 1000, .inl x5, .inl x6, .inr 1000] [] [.inl f0] [g0, q.1, g2, q.2.1, g4, g5, g6, q.2.2, g8]) → good 7 [.inr 0, .inl x1, .inl x2, .inl x3, .inl x4, .inl x5, .inl x6, .inl x7] [] [.inl f0] [g0, g1, g2, g3, g4, g5, g6, g7, g8] := by
    intro n
    induction n with
    | zero => intro x1 x2 x3 x4 x5 x6 x7 g1 g3 g7 q h; exact absurd (show none = some q from h) (fun h => by cases h)
    | succ n ih =>
      intro x1 x2 x3 x4 x5 x6 x7 g1 g3 g7 q h hK
      replace h : zf_M_comesByTwo_l0_b x1 x3 x4 f0 g2 g4 g5 g6 g8 (zf_M_comesByTwo_l0 x1 x3 x4 f0 g2 g4 g5 g6 g8 n) x7 g1 g3 g7 = some q := h
      unfold zf_M_comesByTwo_l0_b at h
      refine zv_ild hB zd309_7 rfl rfl ?_
      refine zv_ild hB zd309_9 rfl rfl ?_
      refine zv_cge hB zd309_11 rfl (fun hc2 => ?_) (fun hc2 => ?_)
      · rw [if_neg (Int.not_lt.mpr hc2)] at h
        have hq := Option.some.inj h
        subst hq
        refine zv_wk hB (L' := [.inr 0, .inl x1, .inl x2, .inr 1000, .inr 1000, .inl x5, .inl x6, .inr 1000]) (F' := [.inl f0]) ⟨fun _ => rfl, fun _ => rfl, fun _ => rfl, fun (h : zv_is (.inr 1000)) => (Nat.lt_irrefl 1000 h).elim, fun (h : zv_is (.inr 1000)) => (Nat.lt_irrefl 1000 h).elim, fun _ => rfl, fun _ => rfl, fun (h : zv_is (.inr 1000)) => (Nat.lt_irrefl 1000 h).elim, trivial⟩ ⟨fun _ => rfl, trivial⟩ ?_
        exact hK
      · rw [if_pos hc2] at h
        refine zv_ald hB zd309_14 rfl rfl rfl ?_
        refine zv_ild hB zd309_15 rfl rfl ?_
        refine zv_ild hB zd309_16 rfl rfl ?_
        refine zv_con hB zd309_17 rfl ?_
        obtain ⟨r3, hr3, h⟩ := zi_bind h
        refine zv_cv hB (zv_emq (va2 := [.inr 0, .inl x1, .inl x3, .inl 0]) (F := [.inl f0]) (F' := [.inl f0]) (G := [g0, g1, g2, g3, g4, g5, g6, g7, g8]) (G' := [g0, r3.1, g2, r3.2.1, g4, g5, g6, r3.2.2, g8]) (ρ := [0, 2, 3, 4, 5, 6, 7, 8, 9]) (φ := [0]) (ψ := [1, 2, 3, 4, 5, 6, 7, 8]) [some 0] [none, some 0, some 1, some 2, some 3, some 4, some 5, some 6, some 7] zyw_M_steers zyw_M_comesByTwo zye_M_comesByTwo (by decide +kernel) (zt_M_steers hr3) ⟨⟨_, rfl, fun _ => rfl⟩, trivial⟩ ⟨rfl, rfl, rfl, rfl, rfl, rfl, rfl, rfl, trivial⟩ rfl rfl rfl rfl rfl rfl rfl) zd309_18 zxt290 rfl (by decide) (by decide) rfl ?_
        refine zv_iincw hB zd309_21 rfl rfl ?_
        refine zv_goto hB zd309_24 rfl ?_
        exact ih _ _ _ _ _ _ _ _ _ _ q h hK
  have l1 : ∀ (n : Nat) (x1 : Int) (x2 : Int) (x5 : Int) (x6 : Int) (x7 : Int) (g1 : (Int → Int)) (g3 : (Int → Int)) (g7 : (Int → Int)) (q : (Int → Int) × (Int → Int) × (Int → Int)), zf_M_comesByTwo_l1 x1 x5 x6 f0 g2 g4 g5 g6 g8 n x7 g1 g3 g7 = some q → (good 51 [.inr 0, .inl x1, .inl x2, .inr 1000, .inr 1000, .inr 1000, .inr 1000, .inr 1000] [] [.inl f0] [g0, q.1, g2, q.2.1, g4, g5, g6, q.2.2, g8]) → good 30 [.inr 0, .inl x1, .inl x2, .inr 1000, .inr 1000, .inl x5, .inl x6, .inl x7] [] [.inl f0] [g0, g1, g2, g3, g4, g5, g6, g7, g8] := by
    intro n
    induction n with
    | zero => intro x1 x2 x5 x6 x7 g1 g3 g7 q h; exact absurd (show none = some q from h) (fun h => by cases h)
    | succ n ih =>
      intro x1 x2 x5 x6 x7 g1 g3 g7 q h hK
      replace h : zf_M_comesByTwo_l1_b x1 x5 x6 f0 g2 g4 g5 g6 g8 (zf_M_comesByTwo_l1 x1 x5 x6 f0 g2 g4 g5 g6 g8 n) x7 g1 g3 g7 = some q := h
      unfold zf_M_comesByTwo_l1_b at h
      refine zv_ild hB zd309_30 rfl rfl ?_
      refine zv_ild hB zd309_32 rfl rfl ?_
      refine zv_cge hB zd309_34 rfl (fun hc5 => ?_) (fun hc5 => ?_)
      · rw [if_neg (Int.not_lt.mpr hc5)] at h
        have hq := Option.some.inj h
        subst hq
        refine zv_wk hB (L' := [.inr 0, .inl x1, .inl x2, .inr 1000, .inr 1000, .inr 1000, .inr 1000, .inr 1000]) (F' := [.inl f0]) ⟨fun _ => rfl, fun _ => rfl, fun _ => rfl, fun (h : zv_is (.inr 1000)) => (Nat.lt_irrefl 1000 h).elim, fun (h : zv_is (.inr 1000)) => (Nat.lt_irrefl 1000 h).elim, fun (h : zv_is (.inr 1000)) => (Nat.lt_irrefl 1000 h).elim, fun (h : zv_is (.inr 1000)) => (Nat.lt_irrefl 1000 h).elim, fun (h : zv_is (.inr 1000)) => (Nat.lt_irrefl 1000 h).elim, trivial⟩ ⟨fun _ => rfl, trivial⟩ ?_
        exact hK
      · rw [if_pos hc5] at h
        refine zv_ald hB zd309_37 rfl rfl rfl ?_
        refine zv_ild hB zd309_38 rfl rfl ?_
        refine zv_ild hB zd309_39 rfl rfl ?_
        refine zv_con hB zd309_41 rfl ?_
        obtain ⟨r6, hr6, h⟩ := zi_bind h
        refine zv_cv hB (zv_emq (va2 := [.inr 0, .inl x1, .inl x5, .inl 0]) (F := [.inl f0]) (F' := [.inl f0]) (G := [g0, g1, g2, g3, g4, g5, g6, g7, g8]) (G' := [g0, r6.1, g2, r6.2.1, g4, g5, g6, r6.2.2, g8]) (ρ := [0, 2, 3, 4, 5, 6, 7, 8, 9]) (φ := [0]) (ψ := [1, 2, 3, 4, 5, 6, 7, 8]) [some 0] [none, some 0, some 1, some 2, some 3, some 4, some 5, some 6, some 7] zyw_M_steers zyw_M_comesByTwo zye_M_comesByTwo (by decide +kernel) (zt_M_steers hr6) ⟨⟨_, rfl, fun _ => rfl⟩, trivial⟩ ⟨rfl, rfl, rfl, rfl, rfl, rfl, rfl, rfl, trivial⟩ rfl rfl rfl rfl rfl rfl rfl) zd309_42 zxt290 rfl (by decide) (by decide) rfl ?_
        refine zv_iincw hB zd309_45 rfl rfl ?_
        refine zv_goto hB zd309_48 rfl ?_
        exact ih _ _ _ _ _ _ _ _ q h hK
  unfold zf_M_comesByTwo at h
  refine zv_ald hB zd309_0 rfl rfl rfl ?_
  obtain ⟨r1, hr1, h⟩ := zi_bind h
  refine zv_cv hB (zv_emq (va2 := [.inr 0]) (F := [.inl f0]) (F' := [.inl f0]) (G := [g0, g1, g2, g3, g4, g5, g6, g7, g8]) (G' := [g0, r1, g2, g3, g4, g5, g6, g7, g8]) (ρ := [0, 1, 2]) (φ := []) (ψ := [0, 1]) [none] [some 0, some 1, none, none, none, none, none, none, none] zyw_M_again zyw_M_comesByTwo zye_M_comesByTwo (by decide +kernel) (zt_M_again hr1) trivial ⟨rfl, rfl, trivial⟩ rfl rfl rfl rfl rfl rfl rfl) zd309_1 zxt301 rfl (by decide) (by decide) rfl ?_
  refine zv_con hB zd309_4 rfl ?_
  refine zv_ist hB zd309_5 rfl rfl rfl ?_
  obtain ⟨q4, hq4, h⟩ := zi_bind h
  refine l0 _ _ _ _ _ _ _ _ _ _ _ q4 hq4 ?_
  show good 27 [.inr 0, .inl x1, .inl x2, .inr 1000, .inr 1000, .inl x5, .inl x6, .inr 1000] [] [.inl f0] [g0, q4.1, g2, q4.2.1, g4, g5, g6, q4.2.2, g8]
  refine zv_con hB zd309_27 rfl ?_
  refine zv_ist hB zd309_28 rfl rfl rfl ?_
  obtain ⟨q7, hq7, h⟩ := zi_bind h
  refine l1 _ _ _ _ _ _ _ _ _ q7 hq7 ?_
  show good 51 [.inr 0, .inl x1, .inl x2, .inr 1000, .inr 1000, .inr 1000, .inr 1000, .inr 1000] [] [.inl f0] [g0, q7.1, g2, q7.2.1, g4, g5, g6, q7.2.2, g8]
  refine zv_ald hB zd309_51 rfl rfl rfl ?_
  refine zv_getr hB zd309_52 rfl ?_
  refine zv_con hB zd309_55 rfl ?_
  refine zv_ild hB zd309_57 rfl rfl ?_
  refine zv_addw hB zd309_58 ?_
  obtain ⟨c8, h⟩ := zi_if h
  refine zv_iald hB zd309_59 rfl rfl (zi_ix_ok c8).1 (zi_ix_ok c8).2 (fun _ _ => ?_)
  refine zv_ild hB zd309_60 rfl rfl ?_
  refine zv_cne hB zd309_61 rfl (fun hc9 => ?_) (fun hc9 => ?_)
  · rw [if_neg hc9] at h
    refine zv_con hB zd309_68 rfl ?_
    have hw := Option.some.inj h
    subst hw
    exact hret _ _ _ _ _ zd309_69 (by constructor <;> decide) ⟨rfl, rfl, rfl⟩
  · rw [if_pos hc9] at h
    refine zv_con hB zd309_64 rfl ?_
    refine zv_goto hB zd309_65 rfl ?_
    have hw := Option.some.inj h
    subst hw
    exact hret _ _ _ _ _ zd309_69 (by constructor <;> decide) ⟨rfl, rfl, rfl⟩
