/-! 62o.dec, 62p.dec, 62q.dec, 62r.dec, 62s.dec -/
section
/-! Methods as functions, and that they do what these do. -/
/-! M_fastest (IIIII)I -/
-- names: 0 StarTalesModel('arg', 0), 1 (0, 422)(0, 12, 0), 2 (0, 422)(0, 12, 1), 3 (0, 14)(0, 12, 21), 4 (0, 13)(0, 12, 26), 5 (0, 14)(0, 12, 23), 6 (0, 14)(0, 12, 24), 7 (0, 220)(0, 12, 20), 8 (0, 220)(0, 12, 25), 9 (0, 14)(0, 12, 22)
-- fields: f0 = 0.clauses_; arrays: g0 = 1, g1 = 2, g2 = 3, g3 = 4, g4 = 5, g5 = 6, g6 = 7, g7 = 8, g8 = 9; out: [('ret', None), ('g', 0), ('g', 1), ('g', 3), ('g', 7)]
abbrev zy_M_fastest : zNL := (10, [(0, 12)], [(0, 12, 13, 0)], [(0, 12, 0, 1), (0, 12, 1, 2), (0, 12, 21, 3), (0, 12, 26, 4), (0, 12, 23, 5), (0, 12, 24, 6), (0, 12, 20, 7), (0, 12, 25, 8), (0, 12, 22, 9)], [(1, 0, 422, 0), (2, 0, 422, 1), (3, 0, 14, 2), (4, 0, 13, 3), (5, 0, 14, 4), (6, 0, 14, 5), (7, 0, 220, 6), (8, 0, 220, 7), (9, 0, 14, 8)])
theorem zyw_M_fastest : zv_wf zy_M_fastest = true := by decide +kernel
theorem zye_M_fastest : zv_ek2 zy_M_fastest = true := by decide +kernel
def zf_M_fastest_l0_b (x1 : Int) (x4 : Int) (x6 : Int) (f0 : Int) (g1 : (Int → Int)) (g2 : (Int → Int)) (g4 : (Int → Int)) (g5 : (Int → Int)) (g6 : (Int → Int)) (g8 : (Int → Int)) (rec : Int → Int → Int → (Int → Int) → (Int → Int) → (Int → Int) → Option (Int × Int × (Int → Int) × (Int → Int) × (Int → Int))) (x7 : Int) (x8 : Int) (x9 : Int) (g0 : (Int → Int)) (g3 : (Int → Int)) (g7 : (Int → Int)) : Option (Int × Int × (Int → Int) × (Int → Int) × (Int → Int)) := if x9 < 24 then ((zf_M_again g1 g0).bind fun r14 => ((zf_M_isTold x9 r14).bind fun r15 => (if r15 = 0 then (rec x7 x8 (zi_w (x9 + 1)) r14 g3 g7) else ((zf_M_comesBy x1 x9 x6 x4 f0 r14 g2 g3 g4 g5 g6 g7 g8).bind fun r18 => (if r18.1 = (-1) then (rec x7 x8 (zi_w (x9 + 1)) r18.2.1 r18.2.2.1 r18.2.2.2) else (if x7 < r18.1 then (rec x7 x8 (zi_w (x9 + 1)) r18.2.1 r18.2.2.1 r18.2.2.2) else (if r18.1 = x7 then (if x8 = (-2) then (rec r18.1 x9 (zi_w (x9 + 1)) r18.2.1 r18.2.2.1 r18.2.2.2) else (rec x7 x8 (zi_w (x9 + 1)) r18.2.1 r18.2.2.1 r18.2.2.2)) else (rec r18.1 x9 (zi_w (x9 + 1)) r18.2.1 r18.2.2.1 r18.2.2.2)))))))) else (some (x7, x8, g0, g3, g7))
def zf_M_fastest_l0 (x1 : Int) (x4 : Int) (x6 : Int) (f0 : Int) (g1 : (Int → Int)) (g2 : (Int → Int)) (g4 : (Int → Int)) (g5 : (Int → Int)) (g6 : (Int → Int)) (g8 : (Int → Int)) : Nat → Int → Int → Int → (Int → Int) → (Int → Int) → (Int → Int) → Option (Int × Int × (Int → Int) × (Int → Int) × (Int → Int))
  | 0, _, _, _, _, _, _ => none
  | n + 1, x7, x8, x9, g0, g3, g7 => zf_M_fastest_l0_b x1 x4 x6 f0 g1 g2 g4 g5 g6 g8 (zf_M_fastest_l0 x1 x4 x6 f0 g1 g2 g4 g5 g6 g8 n) x7 x8 x9 g0 g3 g7
def zf_M_fastest (x1 : Int) (x2 : Int) (x3 : Int) (x4 : Int) (x5 : Int) (f0 : Int) (g0 : (Int → Int)) (g1 : (Int → Int)) (g2 : (Int → Int)) (g3 : (Int → Int)) (g4 : (Int → Int)) (g5 : (Int → Int)) (g6 : (Int → Int)) (g7 : (Int → Int)) (g8 : (Int → Int)) : Option (Int × (Int → Int) × (Int → Int) × (Int → Int) × (Int → Int)) := (zf_M_isShip x1 g0).bind fun r1 => (if r1 = 0 then (some ((-1), g0, g1, g3, g7)) else ((zf_M_isPlace x2 x3).bind fun r3 => (if r3 = 0 then (some ((-1), g0, g1, g3, g7)) else ((zf_M_in x4 1 48).bind fun r5 => (if r5 = 0 then (some ((-1), g0, g1, g3, g7)) else ((zf_M_in x5 0 1).bind fun r7 => (if r7 = 0 then (some ((-1), g0, g1, g3, g7)) else (if (g0 126) = 0 then (some ((-1), g0, g1, g3, g7)) else (cond (zi_ix (zi_w (120 + x1)) 422) (if (g0 (zi_w (120 + x1))) = (zi_w ((zi_w (24 * x3)) + x2)) then ((zf_M_begins g0 g1).bind fun r27 => ((zf_M_fastest_l0 x1 x4 (zi_w ((zi_w (24 * x3)) + x2)) f0 r27 g2 g4 g5 g6 g8 zi_fu 0 (-2) 0 g0 g3 g7).bind fun q28 => ((zf_M_again r27 q28.2.2.1).bind fun r29 => (if q28.1 = 1000000000 then (some ((-2), r29, r27, q28.2.2.2.1, q28.2.2.2.2)) else (if x5 = 0 then (some (q28.1, r29, r27, q28.2.2.2.1, q28.2.2.2.2)) else (some (q28.2.1, r29, r27, q28.2.2.2.1, q28.2.2.2.2))))))) else ((zf_M_begins g0 g1).bind fun r12 => ((zf_M_fastest_l0 x1 x4 (zi_w ((zi_w (24 * x3)) + x2)) f0 r12 g2 g4 g5 g6 g8 zi_fu 1000000000 (-2) 0 g0 g3 g7).bind fun q23 => ((zf_M_again r12 q23.2.2.1).bind fun r24 => (if q23.1 = 1000000000 then (some ((-2), r24, r12, q23.2.2.2.1, q23.2.2.2.2)) else (if x5 = 0 then (some (q23.1, r24, r12, q23.2.2.2.1, q23.2.2.2.2)) else (some (q23.2.1, r24, r12, q23.2.2.2.1, q23.2.2.2.2)))))))) none)))))))))
theorem zd305_0 : decode zxm305.2.1 0 = .ok (.aload_n 0, 1) := by decide +kernel
theorem zd305_1 : decode zxm305.2.1 1 = .ok (.iload_n 1, 1) := by decide +kernel
theorem zd305_2 : decode zxm305.2.1 2 = .ok (.invokevirtual 162, 3) := by decide +kernel
theorem zd305_5 : decode zxm305.2.1 5 = .ok (.ifCond .eq 42, 3) := by decide +kernel
theorem zd305_8 : decode zxm305.2.1 8 = .ok (.iload_n 2, 1) := by decide +kernel
theorem zd305_9 : decode zxm305.2.1 9 = .ok (.iload_n 3, 1) := by decide +kernel
theorem zd305_10 : decode zxm305.2.1 10 = .ok (.invokestatic 154, 3) := by decide +kernel
theorem zd305_13 : decode zxm305.2.1 13 = .ok (.ifCond .eq 34, 3) := by decide +kernel
theorem zd305_16 : decode zxm305.2.1 16 = .ok (.iload 4, 2) := by decide +kernel
theorem zd305_18 : decode zxm305.2.1 18 = .ok (.iconst 1, 1) := by decide +kernel
theorem zd305_19 : decode zxm305.2.1 19 = .ok (.bipush 48, 2) := by decide +kernel
theorem zd305_21 : decode zxm305.2.1 21 = .ok (.invokestatic 150, 3) := by decide +kernel
theorem zd305_24 : decode zxm305.2.1 24 = .ok (.ifCond .eq 23, 3) := by decide +kernel
theorem zd305_27 : decode zxm305.2.1 27 = .ok (.iload 5, 2) := by decide +kernel
theorem zd305_29 : decode zxm305.2.1 29 = .ok (.iconst 0, 1) := by decide +kernel
theorem zd305_30 : decode zxm305.2.1 30 = .ok (.iconst 1, 1) := by decide +kernel
theorem zd305_31 : decode zxm305.2.1 31 = .ok (.invokestatic 150, 3) := by decide +kernel
theorem zd305_34 : decode zxm305.2.1 34 = .ok (.ifCond .eq 13, 3) := by decide +kernel
theorem zd305_37 : decode zxm305.2.1 37 = .ok (.aload_n 0, 1) := by decide +kernel
theorem zd305_38 : decode zxm305.2.1 38 = .ok (.getfield 7, 3) := by decide +kernel
theorem zd305_41 : decode zxm305.2.1 41 = .ok (.bipush 126, 2) := by decide +kernel
theorem zd305_43 : decode zxm305.2.1 43 = .ok (.iaload, 1) := by decide +kernel
theorem zd305_44 : decode zxm305.2.1 44 = .ok (.ifCond .ne 5, 3) := by decide +kernel
theorem zd305_47 : decode zxm305.2.1 47 = .ok (.iconst (-1), 1) := by decide +kernel
theorem zd305_48 : decode zxm305.2.1 48 = .ok (.ireturn, 1) := by decide +kernel
theorem zd305_49 : decode zxm305.2.1 49 = .ok (.bipush 24, 2) := by decide +kernel
theorem zd305_51 : decode zxm305.2.1 51 = .ok (.iload_n 3, 1) := by decide +kernel
theorem zd305_52 : decode zxm305.2.1 52 = .ok (.imul, 1) := by decide +kernel
theorem zd305_53 : decode zxm305.2.1 53 = .ok (.iload_n 2, 1) := by decide +kernel
theorem zd305_54 : decode zxm305.2.1 54 = .ok (.iadd, 1) := by decide +kernel
theorem zd305_55 : decode zxm305.2.1 55 = .ok (.istore 6, 2) := by decide +kernel
theorem zd305_57 : decode zxm305.2.1 57 = .ok (.aload_n 0, 1) := by decide +kernel
theorem zd305_58 : decode zxm305.2.1 58 = .ok (.getfield 7, 3) := by decide +kernel
theorem zd305_61 : decode zxm305.2.1 61 = .ok (.bipush 120, 2) := by decide +kernel
theorem zd305_63 : decode zxm305.2.1 63 = .ok (.iload_n 1, 1) := by decide +kernel
theorem zd305_64 : decode zxm305.2.1 64 = .ok (.iadd, 1) := by decide +kernel
theorem zd305_65 : decode zxm305.2.1 65 = .ok (.iaload, 1) := by decide +kernel
theorem zd305_66 : decode zxm305.2.1 66 = .ok (.iload 6, 2) := by decide +kernel
theorem zd305_68 : decode zxm305.2.1 68 = .ok (.if_icmp .ne 7, 3) := by decide +kernel
theorem zd305_71 : decode zxm305.2.1 71 = .ok (.iconst 0, 1) := by decide +kernel
theorem zd305_72 : decode zxm305.2.1 72 = .ok (.goto 6, 3) := by decide +kernel
theorem zd305_75 : decode zxm305.2.1 75 = .ok (.ldc_w 391, 3) := by decide +kernel
theorem zd305_78 : decode zxm305.2.1 78 = .ok (.istore 7, 2) := by decide +kernel
theorem zd305_80 : decode zxm305.2.1 80 = .ok (.bipush (-2), 2) := by decide +kernel
theorem zd305_82 : decode zxm305.2.1 82 = .ok (.istore 8, 2) := by decide +kernel
theorem zd305_84 : decode zxm305.2.1 84 = .ok (.aload_n 0, 1) := by decide +kernel
theorem zd305_85 : decode zxm305.2.1 85 = .ok (.invokevirtual 434, 3) := by decide +kernel
theorem zd305_88 : decode zxm305.2.1 88 = .ok (.iconst 0, 1) := by decide +kernel
theorem zd305_89 : decode zxm305.2.1 89 = .ok (.istore 9, 2) := by decide +kernel
theorem zd305_91 : decode zxm305.2.1 91 = .ok (.iload 9, 2) := by decide +kernel
theorem zd305_93 : decode zxm305.2.1 93 = .ok (.bipush 24, 2) := by decide +kernel
theorem zd305_95 : decode zxm305.2.1 95 = .ok (.if_icmp .ge 77, 3) := by decide +kernel
theorem zd305_98 : decode zxm305.2.1 98 = .ok (.aload_n 0, 1) := by decide +kernel
theorem zd305_99 : decode zxm305.2.1 99 = .ok (.invokevirtual 437, 3) := by decide +kernel
theorem zd305_102 : decode zxm305.2.1 102 = .ok (.aload_n 0, 1) := by decide +kernel
theorem zd305_103 : decode zxm305.2.1 103 = .ok (.iload 9, 2) := by decide +kernel
theorem zd305_105 : decode zxm305.2.1 105 = .ok (.invokevirtual 157, 3) := by decide +kernel
theorem zd305_108 : decode zxm305.2.1 108 = .ok (.ifCond .eq 17, 3) := by decide +kernel
theorem zd305_111 : decode zxm305.2.1 111 = .ok (.aload_n 0, 1) := by decide +kernel
theorem zd305_112 : decode zxm305.2.1 112 = .ok (.iload_n 1, 1) := by decide +kernel
theorem zd305_113 : decode zxm305.2.1 113 = .ok (.iload 9, 2) := by decide +kernel
theorem zd305_115 : decode zxm305.2.1 115 = .ok (.iload 6, 2) := by decide +kernel
theorem zd305_117 : decode zxm305.2.1 117 = .ok (.iload 4, 2) := by decide +kernel
theorem zd305_119 : decode zxm305.2.1 119 = .ok (.invokevirtual 447, 3) := by decide +kernel
theorem zd305_122 : decode zxm305.2.1 122 = .ok (.goto 4, 3) := by decide +kernel
theorem zd305_125 : decode zxm305.2.1 125 = .ok (.iconst (-1), 1) := by decide +kernel
theorem zd305_126 : decode zxm305.2.1 126 = .ok (.istore 10, 2) := by decide +kernel
theorem zd305_128 : decode zxm305.2.1 128 = .ok (.iload 10, 2) := by decide +kernel
theorem zd305_130 : decode zxm305.2.1 130 = .ok (.iconst (-1), 1) := by decide +kernel
theorem zd305_131 : decode zxm305.2.1 131 = .ok (.if_icmp .eq 35, 3) := by decide +kernel
theorem zd305_134 : decode zxm305.2.1 134 = .ok (.iload 10, 2) := by decide +kernel
theorem zd305_136 : decode zxm305.2.1 136 = .ok (.iload 7, 2) := by decide +kernel
theorem zd305_138 : decode zxm305.2.1 138 = .ok (.if_icmp .gt 28, 3) := by decide +kernel
theorem zd305_141 : decode zxm305.2.1 141 = .ok (.iload 10, 2) := by decide +kernel
theorem zd305_143 : decode zxm305.2.1 143 = .ok (.iload 7, 2) := by decide +kernel
theorem zd305_145 : decode zxm305.2.1 145 = .ok (.if_icmp .ne 13, 3) := by decide +kernel
theorem zd305_148 : decode zxm305.2.1 148 = .ok (.iload 8, 2) := by decide +kernel
theorem zd305_150 : decode zxm305.2.1 150 = .ok (.bipush (-2), 2) := by decide +kernel
theorem zd305_152 : decode zxm305.2.1 152 = .ok (.if_icmp .eq 6, 3) := by decide +kernel
theorem zd305_155 : decode zxm305.2.1 155 = .ok (.goto 11, 3) := by decide +kernel
theorem zd305_158 : decode zxm305.2.1 158 = .ok (.iload 10, 2) := by decide +kernel
theorem zd305_160 : decode zxm305.2.1 160 = .ok (.istore 7, 2) := by decide +kernel
theorem zd305_162 : decode zxm305.2.1 162 = .ok (.iload 9, 2) := by decide +kernel
theorem zd305_164 : decode zxm305.2.1 164 = .ok (.istore 8, 2) := by decide +kernel
theorem zd305_166 : decode zxm305.2.1 166 = .ok (.iinc 9 1, 3) := by decide +kernel
theorem zd305_169 : decode zxm305.2.1 169 = .ok (.goto (-78), 3) := by decide +kernel
theorem zd305_172 : decode zxm305.2.1 172 = .ok (.aload_n 0, 1) := by decide +kernel
theorem zd305_173 : decode zxm305.2.1 173 = .ok (.invokevirtual 437, 3) := by decide +kernel
theorem zd305_176 : decode zxm305.2.1 176 = .ok (.iload 7, 2) := by decide +kernel
theorem zd305_178 : decode zxm305.2.1 178 = .ok (.ldc_w 391, 3) := by decide +kernel
theorem zd305_181 : decode zxm305.2.1 181 = .ok (.if_icmp .ne 8, 3) := by decide +kernel
theorem zd305_184 : decode zxm305.2.1 184 = .ok (.bipush (-2), 2) := by decide +kernel
theorem zd305_186 : decode zxm305.2.1 186 = .ok (.goto 15, 3) := by decide +kernel
theorem zd305_189 : decode zxm305.2.1 189 = .ok (.iload 5, 2) := by decide +kernel
theorem zd305_191 : decode zxm305.2.1 191 = .ok (.ifCond .ne 8, 3) := by decide +kernel
theorem zd305_194 : decode zxm305.2.1 194 = .ok (.iload 7, 2) := by decide +kernel
theorem zd305_196 : decode zxm305.2.1 196 = .ok (.goto 5, 3) := by decide +kernel
theorem zd305_199 : decode zxm305.2.1 199 = .ok (.iload 8, 2) := by decide +kernel
theorem zd305_201 : decode zxm305.2.1 201 = .ok (.ireturn, 1) := by decide +kernel
theorem zt_M_fastest {x1 : Int} {x2 : Int} {x3 : Int} {x4 : Int} {x5 : Int} {f0 : Int} {g0 : (Int → Int)} {g1 : (Int → Int)} {g2 : (Int → Int)} {g3 : (Int → Int)} {g4 : (Int → Int)} {g5 : (Int → Int)} {g6 : (Int → Int)} {g7 : (Int → Int)} {g8 : (Int → Int)} {o : Int × (Int → Int) × (Int → Int) × (Int → Int) × (Int → Int)} (h : zf_M_fastest x1 x2 x3 x4 x5 f0 g0 g1 g2 g3 g4 g5 g6 g7 g8 = some o) : zv_Fn z_TB z_cl z_KX zy_M_fastest zxm305 (7, 420) [.inr 0, .inl x1, .inl x2, .inl x3, .inl x4, .inl x5] [.inl f0] [g0, g1, g2, g3, g4, g5, g6, g7, g8] (some o.1) [.inl f0] [o.2.1, o.2.2.1, g2, o.2.2.2.1, g4, g5, g6, o.2.2.2.2, g8] := zv_meth (K := (z_KF13, z_KC13, z_KL13, z_KT13, [], [], [], none)) (FT := z_FT) (MT := z_MT) (n := 6) zxp305 (z_ks13 _ (fun _ h => List.mem_cons_of_mem _ h) _ _ _ _ (fun j r h _ => by cases h)) (fun _ _ => zs_KX_p) zyw_M_fastest (fun va F G h => by obtain ⟨rfl, _⟩ := h; rfl) (fun va F G h => by obtain ⟨rfl, _⟩ := h; rfl) rfl fun good va F G hB hret hvret hP => by
  obtain ⟨rfl, rfl, rfl⟩ := hP
  have l0 : ∀ (n : Nat) (x1 : Int) (x4 : Int) (x5 : Int) (x6 : Int) (x7 : Int) (x8 : Int) (x9 : Int) (g0 : (Int → Int)) (g1 : (Int → Int)) (g3 : (Int → Int)) (g7 : (Int → Int)) (q : Int × Int × (Int → Int) × (Int → Int) × (Int → Int)), zf_M_fastest_l0 x1 x4 x6 f0 g1 g2 g4 g5 g6 g8 n x7 x8 x9 g0 g3 g7 = some q → (good 172 [.inr 0, .inr 1000, .inr 1000, .inr 1000, .inr 1000, .inl x5, .inr 1000, .inl q.1, .inl q.2.1, .inr 1000, .inr 1000] [] [.inl f0] [q.2.2.1, g1, g2, q.2.2.2.1, g4, g5, g6, q.2.2.2.2, g8]) → good 91 [.inr 0, .inl x1, .inr 1000, .inr 1000, .inl x4, .inl x5, .inl x6, .inl x7, .inl x8, .inl x9, .inr 1000] [] [.inl f0] [g0, g1, g2, g3, g4, g5, g6, g7, g8] := by
    intro n
    induction n with
    | zero => intro x1 x4 x5 x6 x7 x8 x9 g0 g1 g3 g7 q h; exact absurd (show none = some q from h) (fun h => by cases h)
    | succ n ih =>
      intro x1 x4 x5 x6 x7 x8 x9 g0 g1 g3 g7 q h hK
      replace h : zf_M_fastest_l0_b x1 x4 x6 f0 g1 g2 g4 g5 g6 g8 (zf_M_fastest_l0 x1 x4 x6 f0 g1 g2 g4 g5 g6 g8 n) x7 x8 x9 g0 g3 g7 = some q := h
      unfold zf_M_fastest_l0_b at h
      refine zv_ild hB zd305_91 rfl rfl ?_
      refine zv_con hB zd305_93 rfl ?_
      refine zv_cge hB zd305_95 rfl (fun hc13 => ?_) (fun hc13 => ?_)
      · rw [if_neg (Int.not_lt.mpr hc13)] at h
        have hq := Option.some.inj h
        subst hq
        refine zv_wk hB (L' := [.inr 0, .inr 1000, .inr 1000, .inr 1000, .inr 1000, .inl x5, .inr 1000, .inl x7, .inl x8, .inr 1000, .inr 1000]) (F' := [.inl f0]) ⟨fun _ => rfl, fun (h : zv_is (.inr 1000)) => (Nat.lt_irrefl 1000 h).elim, fun (h : zv_is (.inr 1000)) => (Nat.lt_irrefl 1000 h).elim, fun (h : zv_is (.inr 1000)) => (Nat.lt_irrefl 1000 h).elim, fun (h : zv_is (.inr 1000)) => (Nat.lt_irrefl 1000 h).elim, fun _ => rfl, fun (h : zv_is (.inr 1000)) => (Nat.lt_irrefl 1000 h).elim, fun _ => rfl, fun _ => rfl, fun (h : zv_is (.inr 1000)) => (Nat.lt_irrefl 1000 h).elim, fun (h : zv_is (.inr 1000)) => (Nat.lt_irrefl 1000 h).elim, trivial⟩ ⟨fun _ => rfl, trivial⟩ ?_
        exact hK
      · rw [if_pos hc13] at h
        refine zv_ald hB zd305_98 rfl rfl rfl ?_
        obtain ⟨r14, hr14, h⟩ := zi_bind h
        refine zv_cv hB (zv_emq (va2 := [.inr 0]) (F := [.inl f0]) (F' := [.inl f0]) (G := [g0, g1, g2, g3, g4, g5, g6, g7, g8]) (G' := [r14, g1, g2, g3, g4, g5, g6, g7, g8]) (ρ := [0, 2, 1]) (φ := []) (ψ := [1, 0]) [none] [some 1, some 0, none, none, none, none, none, none, none] zyw_M_again zyw_M_fastest zye_M_fastest (by decide +kernel) (zt_M_again hr14) trivial ⟨rfl, rfl, trivial⟩ rfl rfl rfl rfl rfl rfl rfl) zd305_99 zxt301 rfl (by decide) (by decide) rfl ?_
        refine zv_ald hB zd305_102 rfl rfl rfl ?_
        refine zv_ild hB zd305_103 rfl rfl ?_
        obtain ⟨r15, hr15, h⟩ := zi_bind h
        refine zv_cv hB (zv_emq (va2 := [.inr 0, .inl x9]) (F := [.inl f0]) (F' := [.inl f0]) (G := [r14, g1, g2, g3, g4, g5, g6, g7, g8]) (G' := [r14, g1, g2, g3, g4, g5, g6, g7, g8]) (ρ := [0, 1]) (φ := []) (ψ := [0]) [none] [some 0, none, none, none, none, none, none, none, none] zyw_M_isTold zyw_M_fastest zye_M_fastest (by decide +kernel) (zt_M_isTold hr15) trivial ⟨rfl, trivial⟩ rfl rfl rfl rfl rfl rfl rfl) zd305_105 zxt203 rfl (by decide) (by decide) rfl ?_
        refine zv_zeq hB zd305_108 rfl (fun hc16 => ?_) (fun hc16 => ?_)
        · rw [if_pos hc16] at h
          refine zv_con hB zd305_125 rfl ?_
          refine zv_ist hB zd305_126 rfl rfl rfl ?_
          refine zv_ild hB zd305_128 rfl rfl ?_
          refine zv_con hB zd305_130 rfl ?_
          refine zv_ceq hB zd305_131 rfl (fun _ => ?_) (fun hc => absurd hc (by decide))
          refine zv_iincw hB zd305_166 rfl rfl ?_
          refine zv_goto hB zd305_169 rfl ?_
          refine zv_wk hB (L' := [.inr 0, .inl x1, .inr 1000, .inr 1000, .inl x4, .inl x5, .inl x6, .inl x7, .inl x8, .inl (zi_w (x9 + 1)), .inr 1000]) (F' := [.inl f0]) ⟨fun _ => rfl, fun _ => rfl, fun (h : zv_is (.inr 1000)) => (Nat.lt_irrefl 1000 h).elim, fun (h : zv_is (.inr 1000)) => (Nat.lt_irrefl 1000 h).elim, fun _ => rfl, fun _ => rfl, fun _ => rfl, fun _ => rfl, fun _ => rfl, fun _ => rfl, fun (h : zv_is (.inr 1000)) => (Nat.lt_irrefl 1000 h).elim, trivial⟩ ⟨fun _ => rfl, trivial⟩ ?_
          exact ih _ _ _ _ _ _ _ _ _ _ _ q h hK
        · rw [if_neg hc16] at h
          refine zv_ald hB zd305_111 rfl rfl rfl ?_
          refine zv_ild hB zd305_112 rfl rfl ?_
          refine zv_ild hB zd305_113 rfl rfl ?_
          refine zv_ild hB zd305_115 rfl rfl ?_
          refine zv_ild hB zd305_117 rfl rfl ?_
          obtain ⟨r18, hr18, h⟩ := zi_bind h
          refine zv_cv hB (zv_emq (va2 := [.inr 0, .inl x1, .inl x9, .inl x6, .inl x4]) (F := [.inl f0]) (F' := [.inl f0]) (G := [r14, g1, g2, g3, g4, g5, g6, g7, g8]) (G' := [r18.2.1, g1, g2, r18.2.2.1, g4, g5, g6, r18.2.2.2, g8]) (ρ := [0, 1, 3, 4, 5, 6, 7, 8, 9]) (φ := [0]) (ψ := [0, 2, 3, 4, 5, 6, 7, 8]) [some 0] [some 0, none, some 1, some 2, some 3, some 4, some 5, some 6, some 7] zyw_M_comesBy zyw_M_fastest zye_M_fastest (by decide +kernel) (zt_M_comesBy hr18) ⟨⟨_, rfl, fun _ => rfl⟩, trivial⟩ ⟨rfl, rfl, rfl, rfl, rfl, rfl, rfl, rfl, trivial⟩ rfl rfl rfl rfl rfl rfl rfl) zd305_119 zxt306 rfl (by decide) (by decide) rfl ?_
          refine zv_goto hB zd305_122 rfl ?_
          refine zv_ist hB zd305_126 rfl rfl rfl ?_
          refine zv_ild hB zd305_128 rfl rfl ?_
          refine zv_con hB zd305_130 rfl ?_
          refine zv_ceq hB zd305_131 rfl (fun hc19 => ?_) (fun hc19 => ?_)
          · rw [if_pos hc19] at h
            refine zv_iincw hB zd305_166 rfl rfl ?_
            refine zv_goto hB zd305_169 rfl ?_
            refine zv_wk hB (L' := [.inr 0, .inl x1, .inr 1000, .inr 1000, .inl x4, .inl x5, .inl x6, .inl x7, .inl x8, .inl (zi_w (x9 + 1)), .inr 1000]) (F' := [.inl f0]) ⟨fun _ => rfl, fun _ => rfl, fun (h : zv_is (.inr 1000)) => (Nat.lt_irrefl 1000 h).elim, fun (h : zv_is (.inr 1000)) => (Nat.lt_irrefl 1000 h).elim, fun _ => rfl, fun _ => rfl, fun _ => rfl, fun _ => rfl, fun _ => rfl, fun _ => rfl, fun (h : zv_is (.inr 1000)) => (Nat.lt_irrefl 1000 h).elim, trivial⟩ ⟨fun _ => rfl, trivial⟩ ?_
            exact ih _ _ _ _ _ _ _ _ _ _ _ q h hK
          · rw [if_neg hc19] at h
            refine zv_ild hB zd305_134 rfl rfl ?_
            refine zv_ild hB zd305_136 rfl rfl ?_
            refine zv_cgt hB zd305_138 rfl (fun hc20 => ?_) (fun hc20 => ?_)
            · rw [if_pos hc20] at h
              refine zv_iincw hB zd305_166 rfl rfl ?_
              refine zv_goto hB zd305_169 rfl ?_
              refine zv_wk hB (L' := [.inr 0, .inl x1, .inr 1000, .inr 1000, .inl x4, .inl x5, .inl x6, .inl x7, .inl x8, .inl (zi_w (x9 + 1)), .inr 1000]) (F' := [.inl f0]) ⟨fun _ => rfl, fun _ => rfl, fun (h : zv_is (.inr 1000)) => (Nat.lt_irrefl 1000 h).elim, fun (h : zv_is (.inr 1000)) => (Nat.lt_irrefl 1000 h).elim, fun _ => rfl, fun _ => rfl, fun _ => rfl, fun _ => rfl, fun _ => rfl, fun _ => rfl, fun (h : zv_is (.inr 1000)) => (Nat.lt_irrefl 1000 h).elim, trivial⟩ ⟨fun _ => rfl, trivial⟩ ?_
              exact ih _ _ _ _ _ _ _ _ _ _ _ q h hK
            · rw [if_neg (Int.not_lt.mpr hc20)] at h
              refine zv_ild hB zd305_141 rfl rfl ?_
              refine zv_ild hB zd305_143 rfl rfl ?_
              refine zv_cne hB zd305_145 rfl (fun hc21 => ?_) (fun hc21 => ?_)
              · rw [if_neg hc21] at h
                refine zv_ild hB zd305_158 rfl rfl ?_
                refine zv_ist hB zd305_160 rfl rfl rfl ?_
                refine zv_ild hB zd305_162 rfl rfl ?_
                refine zv_ist hB zd305_164 rfl rfl rfl ?_
                refine zv_iincw hB zd305_166 rfl rfl ?_
                refine zv_goto hB zd305_169 rfl ?_
                refine zv_wk hB (L' := [.inr 0, .inl x1, .inr 1000, .inr 1000, .inl x4, .inl x5, .inl x6, .inl r18.1, .inl x9, .inl (zi_w (x9 + 1)), .inr 1000]) (F' := [.inl f0]) ⟨fun _ => rfl, fun _ => rfl, fun (h : zv_is (.inr 1000)) => (Nat.lt_irrefl 1000 h).elim, fun (h : zv_is (.inr 1000)) => (Nat.lt_irrefl 1000 h).elim, fun _ => rfl, fun _ => rfl, fun _ => rfl, fun _ => rfl, fun _ => rfl, fun _ => rfl, fun (h : zv_is (.inr 1000)) => (Nat.lt_irrefl 1000 h).elim, trivial⟩ ⟨fun _ => rfl, trivial⟩ ?_
                exact ih _ _ _ _ _ _ _ _ _ _ _ q h hK
              · rw [if_pos hc21] at h
                refine zv_ild hB zd305_148 rfl rfl ?_
                refine zv_con hB zd305_150 rfl ?_
                refine zv_ceq hB zd305_152 rfl (fun hc22 => ?_) (fun hc22 => ?_)
                · rw [if_pos hc22] at h
                  refine zv_ild hB zd305_158 rfl rfl ?_
                  refine zv_ist hB zd305_160 rfl rfl rfl ?_
                  refine zv_ild hB zd305_162 rfl rfl ?_
                  refine zv_ist hB zd305_164 rfl rfl rfl ?_
                  refine zv_iincw hB zd305_166 rfl rfl ?_
                  refine zv_goto hB zd305_169 rfl ?_
                  refine zv_wk hB (L' := [.inr 0, .inl x1, .inr 1000, .inr 1000, .inl x4, .inl x5, .inl x6, .inl r18.1, .inl x9, .inl (zi_w (x9 + 1)), .inr 1000]) (F' := [.inl f0]) ⟨fun _ => rfl, fun _ => rfl, fun (h : zv_is (.inr 1000)) => (Nat.lt_irrefl 1000 h).elim, fun (h : zv_is (.inr 1000)) => (Nat.lt_irrefl 1000 h).elim, fun _ => rfl, fun _ => rfl, fun _ => rfl, fun _ => rfl, fun _ => rfl, fun _ => rfl, fun (h : zv_is (.inr 1000)) => (Nat.lt_irrefl 1000 h).elim, trivial⟩ ⟨fun _ => rfl, trivial⟩ ?_
                  exact ih _ _ _ _ _ _ _ _ _ _ _ q h hK
                · rw [if_neg hc22] at h
                  refine zv_goto hB zd305_155 rfl ?_
                  refine zv_iincw hB zd305_166 rfl rfl ?_
                  refine zv_goto hB zd305_169 rfl ?_
                  refine zv_wk hB (L' := [.inr 0, .inl x1, .inr 1000, .inr 1000, .inl x4, .inl x5, .inl x6, .inl x7, .inl x8, .inl (zi_w (x9 + 1)), .inr 1000]) (F' := [.inl f0]) ⟨fun _ => rfl, fun _ => rfl, fun (h : zv_is (.inr 1000)) => (Nat.lt_irrefl 1000 h).elim, fun (h : zv_is (.inr 1000)) => (Nat.lt_irrefl 1000 h).elim, fun _ => rfl, fun _ => rfl, fun _ => rfl, fun _ => rfl, fun _ => rfl, fun _ => rfl, fun (h : zv_is (.inr 1000)) => (Nat.lt_irrefl 1000 h).elim, trivial⟩ ⟨fun _ => rfl, trivial⟩ ?_
                  exact ih _ _ _ _ _ _ _ _ _ _ _ q h hK
  unfold zf_M_fastest at h
  refine zv_ald hB zd305_0 rfl rfl rfl ?_
  refine zv_ild hB zd305_1 rfl rfl ?_
  obtain ⟨r1, hr1, h⟩ := zi_bind h
  refine zv_cv hB (zv_emq (va2 := [.inr 0, .inl x1]) (F := [.inl f0]) (F' := [.inl f0]) (G := [g0, g1, g2, g3, g4, g5, g6, g7, g8]) (G' := [g0, g1, g2, g3, g4, g5, g6, g7, g8]) (ρ := [0, 1]) (φ := []) (ψ := [0]) [none] [some 0, none, none, none, none, none, none, none, none] zyw_M_isShip zyw_M_fastest zye_M_fastest (by decide +kernel) (zt_M_isShip hr1) trivial ⟨rfl, trivial⟩ rfl rfl rfl rfl rfl rfl rfl) zd305_2 zxt210 rfl (by decide) (by decide) rfl ?_
  refine zv_zeq hB zd305_5 rfl (fun hc2 => ?_) (fun hc2 => ?_)
  · rw [if_pos hc2] at h
    refine zv_con hB zd305_47 rfl ?_
    have hw := Option.some.inj h
    subst hw
    exact hret _ _ _ _ _ zd305_48 (by trivial) ⟨rfl, rfl, rfl⟩
  · rw [if_neg hc2] at h
    refine zv_ild hB zd305_8 rfl rfl ?_
    refine zv_ild hB zd305_9 rfl rfl ?_
    obtain ⟨r3, hr3, h⟩ := zi_bind h
    refine zv_cs hB (zv_emq (va2 := [.inl x2, .inl x3]) (F := [.inl f0]) (F' := [.inl f0]) (G := [g0, g1, g2, g3, g4, g5, g6, g7, g8]) (G' := [g0, g1, g2, g3, g4, g5, g6, g7, g8]) (ρ := []) (φ := []) (ψ := []) [none] [none, none, none, none, none, none, none, none, none] zyw_M_isPlace zyw_M_fastest zye_M_fastest (by decide +kernel) (zt_M_isPlace hr3) trivial trivial rfl rfl rfl rfl rfl rfl rfl) zd305_10 zxt201 rfl (by decide) (by decide) rfl ?_
    refine zv_zeq hB zd305_13 rfl (fun hc4 => ?_) (fun hc4 => ?_)
    · rw [if_pos hc4] at h
      refine zv_con hB zd305_47 rfl ?_
      have hw := Option.some.inj h
      subst hw
      exact hret _ _ _ _ _ zd305_48 (by trivial) ⟨rfl, rfl, rfl⟩
    · rw [if_neg hc4] at h
      refine zv_ild hB zd305_16 rfl rfl ?_
      refine zv_con hB zd305_18 rfl ?_
      refine zv_con hB zd305_19 rfl ?_
      obtain ⟨r5, hr5, h⟩ := zi_bind h
      refine zv_cs hB (zv_emq (va2 := [.inl x4, .inl 1, .inl 48]) (F := [.inl f0]) (F' := [.inl f0]) (G := [g0, g1, g2, g3, g4, g5, g6, g7, g8]) (G' := [g0, g1, g2, g3, g4, g5, g6, g7, g8]) (ρ := []) (φ := []) (ψ := []) [none] [none, none, none, none, none, none, none, none, none] zyw_M_in zyw_M_fastest zye_M_fastest (by decide +kernel) (zt_M_in hr5) trivial trivial rfl rfl rfl rfl rfl rfl rfl) zd305_21 zxt200 rfl (by decide) (by decide) rfl ?_
      refine zv_zeq hB zd305_24 rfl (fun hc6 => ?_) (fun hc6 => ?_)
      · rw [if_pos hc6] at h
        refine zv_con hB zd305_47 rfl ?_
        have hw := Option.some.inj h
        subst hw
        exact hret _ _ _ _ _ zd305_48 (by trivial) ⟨rfl, rfl, rfl⟩
      · rw [if_neg hc6] at h
        refine zv_ild hB zd305_27 rfl rfl ?_
        refine zv_con hB zd305_29 rfl ?_
        refine zv_con hB zd305_30 rfl ?_
        obtain ⟨r7, hr7, h⟩ := zi_bind h
        refine zv_cs hB (zv_emq (va2 := [.inl x5, .inl 0, .inl 1]) (F := [.inl f0]) (F' := [.inl f0]) (G := [g0, g1, g2, g3, g4, g5, g6, g7, g8]) (G' := [g0, g1, g2, g3, g4, g5, g6, g7, g8]) (ρ := []) (φ := []) (ψ := []) [none] [none, none, none, none, none, none, none, none, none] zyw_M_in zyw_M_fastest zye_M_fastest (by decide +kernel) (zt_M_in hr7) trivial trivial rfl rfl rfl rfl rfl rfl rfl) zd305_31 zxt200 rfl (by decide) (by decide) rfl ?_
        refine zv_zeq hB zd305_34 rfl (fun hc8 => ?_) (fun hc8 => ?_)
        · rw [if_pos hc8] at h
          refine zv_con hB zd305_47 rfl ?_
          have hw := Option.some.inj h
          subst hw
          exact hret _ _ _ _ _ zd305_48 (by trivial) ⟨rfl, rfl, rfl⟩
        · rw [if_neg hc8] at h
          refine zv_ald hB zd305_37 rfl rfl rfl ?_
          refine zv_getr hB zd305_38 rfl ?_
          refine zv_con hB zd305_41 rfl ?_
          refine zv_iald hB zd305_43 rfl rfl (by decide) (by decide) (fun _ _ => ?_)
          refine zv_zne hB zd305_44 rfl (fun hc9 => ?_) (fun hc9 => ?_)
          · rw [if_neg hc9] at h
            refine zv_con hB zd305_49 rfl ?_
            refine zv_ild hB zd305_51 rfl rfl ?_
            refine zv_mulw hB zd305_52 ?_
            refine zv_ild hB zd305_53 rfl rfl ?_
            refine zv_addw hB zd305_54 ?_
            refine zv_ist hB zd305_55 rfl rfl rfl ?_
            refine zv_ald hB zd305_57 rfl rfl rfl ?_
            refine zv_getr hB zd305_58 rfl ?_
            refine zv_con hB zd305_61 rfl ?_
            refine zv_ild hB zd305_63 rfl rfl ?_
            refine zv_addw hB zd305_64 ?_
            obtain ⟨c10, h⟩ := zi_if h
            refine zv_iald hB zd305_65 rfl rfl (zi_ix_ok c10).1 (zi_ix_ok c10).2 (fun _ _ => ?_)
            refine zv_ild hB zd305_66 rfl rfl ?_
            refine zv_cne hB zd305_68 rfl (fun hc11 => ?_) (fun hc11 => ?_)
            · rw [if_neg hc11] at h
              refine zv_con (n := 1000000000) hB zd305_75 (by decide +kernel) ?_
              refine zv_ist hB zd305_78 rfl rfl rfl ?_
              refine zv_con hB zd305_80 rfl ?_
              refine zv_ist hB zd305_82 rfl rfl rfl ?_
              refine zv_ald hB zd305_84 rfl rfl rfl ?_
              obtain ⟨r12, hr12, h⟩ := zi_bind h
              refine zv_cv hB (zv_emq (va2 := [.inr 0]) (F := [.inl f0]) (F' := [.inl f0]) (G := [g0, g1, g2, g3, g4, g5, g6, g7, g8]) (G' := [g0, r12, g2, g3, g4, g5, g6, g7, g8]) (ρ := [0, 1, 2]) (φ := []) (ψ := [0, 1]) [none] [some 0, some 1, none, none, none, none, none, none, none] zyw_M_begins zyw_M_fastest zye_M_fastest (by decide +kernel) (zt_M_begins hr12) trivial ⟨rfl, rfl, trivial⟩ rfl rfl rfl rfl rfl rfl rfl) zd305_85 zxt299 rfl (by decide) (by decide) rfl ?_
              refine zv_con hB zd305_88 rfl ?_
              refine zv_ist hB zd305_89 rfl rfl rfl ?_
              obtain ⟨q23, hq23, h⟩ := zi_bind h
              refine zv_wk hB (L' := [.inr 0, .inl x1, .inr 1000, .inr 1000, .inl x4, .inl x5, .inl (zi_w ((zi_w (24 * x3)) + x2)), .inl 1000000000, .inl (-2), .inl 0, .inr 1000]) (F' := [.inl f0]) ⟨fun _ => rfl, fun _ => rfl, fun (h : zv_is (.inr 1000)) => (Nat.lt_irrefl 1000 h).elim, fun (h : zv_is (.inr 1000)) => (Nat.lt_irrefl 1000 h).elim, fun _ => rfl, fun _ => rfl, fun _ => rfl, fun _ => rfl, fun _ => rfl, fun _ => rfl, fun (h : zv_is (.inr 1000)) => (Nat.lt_irrefl 1000 h).elim, trivial⟩ ⟨fun _ => rfl, trivial⟩ ?_
              refine l0 _ _ _ _ _ _ _ _ _ _ _ _ q23 hq23 ?_
              show good 172 [.inr 0, .inr 1000, .inr 1000, .inr 1000, .inr 1000, .inl x5, .inr 1000, .inl q23.1, .inl q23.2.1, .inr 1000, .inr 1000] [] [.inl f0] [q23.2.2.1, r12, g2, q23.2.2.2.1, g4, g5, g6, q23.2.2.2.2, g8]
              refine zv_ald hB zd305_172 rfl rfl rfl ?_
              obtain ⟨r24, hr24, h⟩ := zi_bind h
              refine zv_cv hB (zv_emq (va2 := [.inr 0]) (F := [.inl f0]) (F' := [.inl f0]) (G := [q23.2.2.1, r12, g2, q23.2.2.2.1, g4, g5, g6, q23.2.2.2.2, g8]) (G' := [r24, r12, g2, q23.2.2.2.1, g4, g5, g6, q23.2.2.2.2, g8]) (ρ := [0, 2, 1]) (φ := []) (ψ := [1, 0]) [none] [some 1, some 0, none, none, none, none, none, none, none] zyw_M_again zyw_M_fastest zye_M_fastest (by decide +kernel) (zt_M_again hr24) trivial ⟨rfl, rfl, trivial⟩ rfl rfl rfl rfl rfl rfl rfl) zd305_173 zxt301 rfl (by decide) (by decide) rfl ?_
              refine zv_ild hB zd305_176 rfl rfl ?_
              refine zv_con (n := 1000000000) hB zd305_178 (by decide +kernel) ?_
              refine zv_cne hB zd305_181 rfl (fun hc25 => ?_) (fun hc25 => ?_)
              · rw [if_neg hc25] at h
                refine zv_ild hB zd305_189 rfl rfl ?_
                refine zv_zne hB zd305_191 rfl (fun hc26 => ?_) (fun hc26 => ?_)
                · rw [if_neg hc26] at h
                  refine zv_ild hB zd305_199 rfl rfl ?_
                  have hw := Option.some.inj h
                  subst hw
                  exact hret _ _ _ _ _ zd305_201 (by trivial) ⟨rfl, rfl, rfl⟩
                · rw [if_pos hc26] at h
                  refine zv_ild hB zd305_194 rfl rfl ?_
                  refine zv_goto hB zd305_196 rfl ?_
                  have hw := Option.some.inj h
                  subst hw
                  exact hret _ _ _ _ _ zd305_201 (by trivial) ⟨rfl, rfl, rfl⟩
              · rw [if_pos hc25] at h
                refine zv_con hB zd305_184 rfl ?_
                refine zv_goto hB zd305_186 rfl ?_
                have hw := Option.some.inj h
                subst hw
                exact hret _ _ _ _ _ zd305_201 (by trivial) ⟨rfl, rfl, rfl⟩
            · rw [if_pos hc11] at h
              refine zv_con hB zd305_71 rfl ?_
              refine zv_goto hB zd305_72 rfl ?_
              refine zv_ist hB zd305_78 rfl rfl rfl ?_
              refine zv_con hB zd305_80 rfl ?_
              refine zv_ist hB zd305_82 rfl rfl rfl ?_
              refine zv_ald hB zd305_84 rfl rfl rfl ?_
              obtain ⟨r27, hr27, h⟩ := zi_bind h
              refine zv_cv hB (zv_emq (va2 := [.inr 0]) (F := [.inl f0]) (F' := [.inl f0]) (G := [g0, g1, g2, g3, g4, g5, g6, g7, g8]) (G' := [g0, r27, g2, g3, g4, g5, g6, g7, g8]) (ρ := [0, 1, 2]) (φ := []) (ψ := [0, 1]) [none] [some 0, some 1, none, none, none, none, none, none, none] zyw_M_begins zyw_M_fastest zye_M_fastest (by decide +kernel) (zt_M_begins hr27) trivial ⟨rfl, rfl, trivial⟩ rfl rfl rfl rfl rfl rfl rfl) zd305_85 zxt299 rfl (by decide) (by decide) rfl ?_
              refine zv_con hB zd305_88 rfl ?_
              refine zv_ist hB zd305_89 rfl rfl rfl ?_
              obtain ⟨q28, hq28, h⟩ := zi_bind h
              refine zv_wk hB (L' := [.inr 0, .inl x1, .inr 1000, .inr 1000, .inl x4, .inl x5, .inl (zi_w ((zi_w (24 * x3)) + x2)), .inl 0, .inl (-2), .inl 0, .inr 1000]) (F' := [.inl f0]) ⟨fun _ => rfl, fun _ => rfl, fun (h : zv_is (.inr 1000)) => (Nat.lt_irrefl 1000 h).elim, fun (h : zv_is (.inr 1000)) => (Nat.lt_irrefl 1000 h).elim, fun _ => rfl, fun _ => rfl, fun _ => rfl, fun _ => rfl, fun _ => rfl, fun _ => rfl, fun (h : zv_is (.inr 1000)) => (Nat.lt_irrefl 1000 h).elim, trivial⟩ ⟨fun _ => rfl, trivial⟩ ?_
              refine l0 _ _ _ _ _ _ _ _ _ _ _ _ q28 hq28 ?_
              show good 172 [.inr 0, .inr 1000, .inr 1000, .inr 1000, .inr 1000, .inl x5, .inr 1000, .inl q28.1, .inl q28.2.1, .inr 1000, .inr 1000] [] [.inl f0] [q28.2.2.1, r27, g2, q28.2.2.2.1, g4, g5, g6, q28.2.2.2.2, g8]
              refine zv_ald hB zd305_172 rfl rfl rfl ?_
              obtain ⟨r29, hr29, h⟩ := zi_bind h
              refine zv_cv hB (zv_emq (va2 := [.inr 0]) (F := [.inl f0]) (F' := [.inl f0]) (G := [q28.2.2.1, r27, g2, q28.2.2.2.1, g4, g5, g6, q28.2.2.2.2, g8]) (G' := [r29, r27, g2, q28.2.2.2.1, g4, g5, g6, q28.2.2.2.2, g8]) (ρ := [0, 2, 1]) (φ := []) (ψ := [1, 0]) [none] [some 1, some 0, none, none, none, none, none, none, none] zyw_M_again zyw_M_fastest zye_M_fastest (by decide +kernel) (zt_M_again hr29) trivial ⟨rfl, rfl, trivial⟩ rfl rfl rfl rfl rfl rfl rfl) zd305_173 zxt301 rfl (by decide) (by decide) rfl ?_
              refine zv_ild hB zd305_176 rfl rfl ?_
              refine zv_con (n := 1000000000) hB zd305_178 (by decide +kernel) ?_
              refine zv_cne hB zd305_181 rfl (fun hc30 => ?_) (fun hc30 => ?_)
              · rw [if_neg hc30] at h
                refine zv_ild hB zd305_189 rfl rfl ?_
                refine zv_zne hB zd305_191 rfl (fun hc31 => ?_) (fun hc31 => ?_)
                · rw [if_neg hc31] at h
                  refine zv_ild hB zd305_199 rfl rfl ?_
                  have hw := Option.some.inj h
                  subst hw
                  exact hret _ _ _ _ _ zd305_201 (by trivial) ⟨rfl, rfl, rfl⟩
                · rw [if_pos hc31] at h
                  refine zv_ild hB zd305_194 rfl rfl ?_
                  refine zv_goto hB zd305_196 rfl ?_
                  have hw := Option.some.inj h
                  subst hw
                  exact hret _ _ _ _ _ zd305_201 (by trivial) ⟨rfl, rfl, rfl⟩
              · rw [if_pos hc30] at h
                refine zv_con hB zd305_184 rfl ?_
                refine zv_goto hB zd305_186 rfl ?_
                have hw := Option.some.inj h
                subst hw
                exact hret _ _ _ _ _ zd305_201 (by trivial) ⟨rfl, rfl, rfl⟩
          · rw [if_pos hc9] at h
            refine zv_con hB zd305_47 rfl ?_
            have hw := Option.some.inj h
            subst hw
            exact hret _ _ _ _ _ zd305_48 (by trivial) ⟨rfl, rfl, rfl⟩
/-! M_comesByTwo (IIIIII)Z -/
-- names: 0 StarTalesModel('arg', 0), 1 (0, 422)(0, 12, 1), 2 (0, 422)(0, 12, 0), 3 (0, 14)(0, 12, 21), 4 (0, 13)(0, 12, 26), 5 (0, 14)(0, 12, 23), 6 (0, 14)(0, 12, 24), 7 (0, 220)(0, 12, 20), 8 (0, 220)(0, 12, 25), 9 (0, 14)(0, 12, 22)
-- fields: f0 = 0.clauses_; arrays: g0 = 1, g1 = 2, g2 = 3, g3 = 4, g4 = 5, g5 = 6, g6 = 7, g7 = 8, g8 = 9; out: [('ret', None), ('g', 1), ('g', 3), ('g', 7)]
abbrev zy_M_comesByTwo : zNL := (10, [(0, 12)], [(0, 12, 13, 0)], [(0, 12, 1, 1), (0, 12, 0, 2), (0, 12, 21, 3), (0, 12, 26, 4), (0, 12, 23, 5), (0, 12, 24, 6), (0, 12, 20, 7), (0, 12, 25, 8), (0, 12, 22, 9)], [(1, 0, 422, 0), (2, 0, 422, 1), (3, 0, 14, 2), (4, 0, 13, 3), (5, 0, 14, 4), (6, 0, 14, 5), (7, 0, 220, 6), (8, 0, 220, 7), (9, 0, 14, 8)])
theorem zyw_M_comesByTwo : zv_wf zy_M_comesByTwo = true := by decide +kernel
theorem zye_M_comesByTwo : zv_ek2 zy_M_comesByTwo = true := by decide +kernel
def zf_M_comesByTwo_l0_b (x1 : Int) (x3 : Int) (x4 : Int) (f0 : Int) (g2 : (Int → Int)) (g4 : (Int → Int)) (g5 : (Int → Int)) (g6 : (Int → Int)) (g8 : (Int → Int)) (rec : Int → (Int → Int) → (Int → Int) → (Int → Int) → Option ((Int → Int) × (Int → Int) × (Int → Int))) (x7 : Int) (g1 : (Int → Int)) (g3 : (Int → Int)) (g7 : (Int → Int)) : Option ((Int → Int) × (Int → Int) × (Int → Int)) := if x7 < x4 then ((zf_M_steers x1 x3 0 f0 g1 g2 g3 g4 g5 g6 g7 g8).bind fun r3 => (rec (zi_w (x7 + 1)) r3.1 r3.2.1 r3.2.2)) else (some (g1, g3, g7))
def zf_M_comesByTwo_l0 (x1 : Int) (x3 : Int) (x4 : Int) (f0 : Int) (g2 : (Int → Int)) (g4 : (Int → Int)) (g5 : (Int → Int)) (g6 : (Int → Int)) (g8 : (Int → Int)) : Nat → Int → (Int → Int) → (Int → Int) → (Int → Int) → Option ((Int → Int) × (Int → Int) × (Int → Int))
  | 0, _, _, _, _ => none
  | n + 1, x7, g1, g3, g7 => zf_M_comesByTwo_l0_b x1 x3 x4 f0 g2 g4 g5 g6 g8 (zf_M_comesByTwo_l0 x1 x3 x4 f0 g2 g4 g5 g6 g8 n) x7 g1 g3 g7
def zf_M_comesByTwo_l1_b (x1 : Int) (x5 : Int) (x6 : Int) (f0 : Int) (g2 : (Int → Int)) (g4 : (Int → Int)) (g5 : (Int → Int)) (g6 : (Int → Int)) (g8 : (Int → Int)) (rec : Int → (Int → Int) → (Int → Int) → (Int → Int) → Option ((Int → Int) × (Int → Int) × (Int → Int))) (x7 : Int) (g1 : (Int → Int)) (g3 : (Int → Int)) (g7 : (Int → Int)) : Option ((Int → Int) × (Int → Int) × (Int → Int)) := if x7 < x6 then ((zf_M_steers x1 x5 0 f0 g1 g2 g3 g4 g5 g6 g7 g8).bind fun r6 => (rec (zi_w (x7 + 1)) r6.1 r6.2.1 r6.2.2)) else (some (g1, g3, g7))
def zf_M_comesByTwo_l1 (x1 : Int) (x5 : Int) (x6 : Int) (f0 : Int) (g2 : (Int → Int)) (g4 : (Int → Int)) (g5 : (Int → Int)) (g6 : (Int → Int)) (g8 : (Int → Int)) : Nat → Int → (Int → Int) → (Int → Int) → (Int → Int) → Option ((Int → Int) × (Int → Int) × (Int → Int))
  | 0, _, _, _, _ => none
  | n + 1, x7, g1, g3, g7 => zf_M_comesByTwo_l1_b x1 x5 x6 f0 g2 g4 g5 g6 g8 (zf_M_comesByTwo_l1 x1 x5 x6 f0 g2 g4 g5 g6 g8 n) x7 g1 g3 g7
def zf_M_comesByTwo (x1 : Int) (x2 : Int) (x3 : Int) (x4 : Int) (x5 : Int) (x6 : Int) (f0 : Int) (g0 : (Int → Int)) (g1 : (Int → Int)) (g2 : (Int → Int)) (g3 : (Int → Int)) (g4 : (Int → Int)) (g5 : (Int → Int)) (g6 : (Int → Int)) (g7 : (Int → Int)) (g8 : (Int → Int)) : Option (Int × (Int → Int) × (Int → Int) × (Int → Int)) := (zf_M_again g0 g1).bind fun r1 => ((zf_M_comesByTwo_l0 x1 x3 x4 f0 g2 g4 g5 g6 g8 zi_fu 0 r1 g3 g7).bind fun q4 => ((zf_M_comesByTwo_l1 x1 x5 x6 f0 g2 g4 g5 g6 g8 zi_fu 0 q4.1 q4.2.1 q4.2.2).bind fun q7 => (cond (zi_ix (zi_w (120 + x1)) 422) (if (q7.1 (zi_w (120 + x1))) = x2 then (some (1, q7.1, q7.2.1, q7.2.2)) else (some (0, q7.1, q7.2.1, q7.2.2))) none)))
theorem zd309_0 : decode zxm309.2.1 0 = .ok (.aload_n 0, 1) := by decide +kernel
theorem zd309_1 : decode zxm309.2.1 1 = .ok (.invokevirtual 437, 3) := by decide +kernel
theorem zd309_4 : decode zxm309.2.1 4 = .ok (.iconst 0, 1) := by decide +kernel
theorem zd309_5 : decode zxm309.2.1 5 = .ok (.istore 7, 2) := by decide +kernel
theorem zd309_7 : decode zxm309.2.1 7 = .ok (.iload 7, 2) := by decide +kernel
theorem zd309_9 : decode zxm309.2.1 9 = .ok (.iload 4, 2) := by decide +kernel
theorem zd309_11 : decode zxm309.2.1 11 = .ok (.if_icmp .ge 16, 3) := by decide +kernel
theorem zd309_14 : decode zxm309.2.1 14 = .ok (.aload_n 0, 1) := by decide +kernel
theorem zd309_15 : decode zxm309.2.1 15 = .ok (.iload_n 1, 1) := by decide +kernel
theorem zd309_16 : decode zxm309.2.1 16 = .ok (.iload_n 3, 1) := by decide +kernel
theorem zd309_17 : decode zxm309.2.1 17 = .ok (.iconst 0, 1) := by decide +kernel
theorem zd309_18 : decode zxm309.2.1 18 = .ok (.invokevirtual 430, 3) := by decide +kernel
theorem zd309_21 : decode zxm309.2.1 21 = .ok (.iinc 7 1, 3) := by decide +kernel
theorem zd309_24 : decode zxm309.2.1 24 = .ok (.goto (-17), 3) := by decide +kernel
theorem zd309_27 : decode zxm309.2.1 27 = .ok (.iconst 0, 1) := by decide +kernel
theorem zd309_28 : decode zxm309.2.1 28 = .ok (.istore 7, 2) := by decide +kernel
theorem zd309_30 : decode zxm309.2.1 30 = .ok (.iload 7, 2) := by decide +kernel
theorem zd309_32 : decode zxm309.2.1 32 = .ok (.iload 6, 2) := by decide +kernel
theorem zd309_34 : decode zxm309.2.1 34 = .ok (.if_icmp .ge 17, 3) := by decide +kernel
theorem zd309_37 : decode zxm309.2.1 37 = .ok (.aload_n 0, 1) := by decide +kernel
theorem zd309_38 : decode zxm309.2.1 38 = .ok (.iload_n 1, 1) := by decide +kernel
theorem zd309_39 : decode zxm309.2.1 39 = .ok (.iload 5, 2) := by decide +kernel
theorem zd309_41 : decode zxm309.2.1 41 = .ok (.iconst 0, 1) := by decide +kernel
theorem zd309_42 : decode zxm309.2.1 42 = .ok (.invokevirtual 430, 3) := by decide +kernel
theorem zd309_45 : decode zxm309.2.1 45 = .ok (.iinc 7 1, 3) := by decide +kernel
theorem zd309_48 : decode zxm309.2.1 48 = .ok (.goto (-18), 3) := by decide +kernel
theorem zd309_51 : decode zxm309.2.1 51 = .ok (.aload_n 0, 1) := by decide +kernel
theorem zd309_52 : decode zxm309.2.1 52 = .ok (.getfield 7, 3) := by decide +kernel
theorem zd309_55 : decode zxm309.2.1 55 = .ok (.bipush 120, 2) := by decide +kernel
theorem zd309_57 : decode zxm309.2.1 57 = .ok (.iload_n 1, 1) := by decide +kernel
theorem zd309_58 : decode zxm309.2.1 58 = .ok (.iadd, 1) := by decide +kernel
theorem zd309_59 : decode zxm309.2.1 59 = .ok (.iaload, 1) := by decide +kernel
theorem zd309_60 : decode zxm309.2.1 60 = .ok (.iload_n 2, 1) := by decide +kernel
theorem zd309_61 : decode zxm309.2.1 61 = .ok (.if_icmp .ne 7, 3) := by decide +kernel
theorem zd309_64 : decode zxm309.2.1 64 = .ok (.iconst 1, 1) := by decide +kernel
theorem zd309_65 : decode zxm309.2.1 65 = .ok (.goto 4, 3) := by decide +kernel
theorem zd309_68 : decode zxm309.2.1 68 = .ok (.iconst 0, 1) := by decide +kernel
theorem zd309_69 : decode zxm309.2.1 69 = .ok (.ireturn, 1) := by decide +kernel
theorem zt_M_comesByTwo {x1 : Int} {x2 : Int} {x3 : Int} {x4 : Int} {x5 : Int} {x6 : Int} {f0 : Int} {g0 : (Int → Int)} {g1 : (Int → Int)} {g2 : (Int → Int)} {g3 : (Int → Int)} {g4 : (Int → Int)} {g5 : (Int → Int)} {g6 : (Int → Int)} {g7 : (Int → Int)} {g8 : (Int → Int)} {o : Int × (Int → Int) × (Int → Int) × (Int → Int)} (h : zf_M_comesByTwo x1 x2 x3 x4 x5 x6 f0 g0 g1 g2 g3 g4 g5 g6 g7 g8 = some o) : zv_Fn z_TB z_cl z_KX zy_M_comesByTwo zxm309 (6, 360) [.inr 0, .inl x1, .inl x2, .inl x3, .inl x4, .inl x5, .inl x6] [.inl f0] [g0, g1, g2, g3, g4, g5, g6, g7, g8] (some o.1) [.inl f0] [g0, o.2.1, g2, o.2.2.1, g4, g5, g6, o.2.2.2, g8] := zv_meth (K := (z_KF13, z_KC13, z_KL13, z_KT13, [], [], [], none)) (FT := z_FT) (MT := z_MT) (n := 7) zxp309 (z_ks13 _ (fun _ h => List.mem_cons_of_mem _ h) _ _ _ _ (fun j r h _ => by cases h)) (fun _ _ => zs_KX_p) zyw_M_comesByTwo (fun va F G h => by obtain ⟨rfl, _⟩ := h; rfl) (fun va F G h => by obtain ⟨rfl, _⟩ := h; rfl) rfl fun good va F G hB hret hvret hP => by
  obtain ⟨rfl, rfl, rfl⟩ := hP
  have l0 : ∀ (n : Nat) (x1 : Int) (x2 : Int) (x3 : Int) (x4 : Int) (x5 : Int) (x6 : Int) (x7 : Int) (g1 : (Int → Int)) (g3 : (Int → Int)) (g7 : (Int → Int)) (q : (Int → Int) × (Int → Int) × (Int → Int)), zf_M_comesByTwo_l0 x1 x3 x4 f0 g2 g4 g5 g6 g8 n x7 g1 g3 g7 = some q → (good 27 [.inr 0, .inl x1, .inl x2, .inr 1000, .inr 1000, .inl x5, .inl x6, .inr 1000] [] [.inl f0] [g0, q.1, g2, q.2.1, g4, g5, g6, q.2.2, g8]) → good 7 [.inr 0, .inl x1, .inl x2, .inl x3, .inl x4, .inl x5, .inl x6, .inl x7] [] [.inl f0] [g0, g1, g2, g3, g4, g5, g6, g7, g8] := by
    intro n
    induction n with
    | zero => intro x1 x2 x3 x4 x5 x6 x7 g1 g3 g7 q h; exact absurd (show none = some q from h) (fun h => by cases h)
    | succ n ih =>
      intro x1 x2 x3 x4 x5 x6 x7 g1 g3 g7 q h hK
      replace h : zf_M_comesByTwo_l0_b x1 x3 x4 f0 g2 g4 g5 g6 g8 (zf_M_comesByTwo_l0 x1 x3 x4 f0 g2 g4 g5 g6 g8 n) x7 g1 g3 g7 = some q := h
      unfold zf_M_comesByTwo_l0_b at h
      refine zv_ild hB zd309_7 rfl rfl ?_
      refine zv_ild hB zd309_9 rfl rfl ?_
      refine zv_cge hB zd309_11 rfl (fun hc2 => ?_) (fun hc2 => ?_)
      · rw [if_neg (Int.not_lt.mpr hc2)] at h
        have hq := Option.some.inj h
        subst hq
        refine zv_wk hB (L' := [.inr 0, .inl x1, .inl x2, .inr 1000, .inr 1000, .inl x5, .inl x6, .inr 1000]) (F' := [.inl f0]) ⟨fun _ => rfl, fun _ => rfl, fun _ => rfl, fun (h : zv_is (.inr 1000)) => (Nat.lt_irrefl 1000 h).elim, fun (h : zv_is (.inr 1000)) => (Nat.lt_irrefl 1000 h).elim, fun _ => rfl, fun _ => rfl, fun (h : zv_is (.inr 1000)) => (Nat.lt_irrefl 1000 h).elim, trivial⟩ ⟨fun _ => rfl, trivial⟩ ?_
        exact hK
      · rw [if_pos hc2] at h
        refine zv_ald hB zd309_14 rfl rfl rfl ?_
        refine zv_ild hB zd309_15 rfl rfl ?_
        refine zv_ild hB zd309_16 rfl rfl ?_
        refine zv_con hB zd309_17 rfl ?_
        obtain ⟨r3, hr3, h⟩ := zi_bind h
        refine zv_cv hB (zv_emq (va2 := [.inr 0, .inl x1, .inl x3, .inl 0]) (F := [.inl f0]) (F' := [.inl f0]) (G := [g0, g1, g2, g3, g4, g5, g6, g7, g8]) (G' := [g0, r3.1, g2, r3.2.1, g4, g5, g6, r3.2.2, g8]) (ρ := [0, 2, 3, 4, 5, 6, 7, 8, 9]) (φ := [0]) (ψ := [1, 2, 3, 4, 5, 6, 7, 8]) [some 0] [none, some 0, some 1, some 2, some 3, some 4, some 5, some 6, some 7] zyw_M_steers zyw_M_comesByTwo zye_M_comesByTwo (by decide +kernel) (zt_M_steers hr3) ⟨⟨_, rfl, fun _ => rfl⟩, trivial⟩ ⟨rfl, rfl, rfl, rfl, rfl, rfl, rfl, rfl, trivial⟩ rfl rfl rfl rfl rfl rfl rfl) zd309_18 zxt290 rfl (by decide) (by decide) rfl ?_
        refine zv_iincw hB zd309_21 rfl rfl ?_
        refine zv_goto hB zd309_24 rfl ?_
        exact ih _ _ _ _ _ _ _ _ _ _ q h hK
  have l1 : ∀ (n : Nat) (x1 : Int) (x2 : Int) (x5 : Int) (x6 : Int) (x7 : Int) (g1 : (Int → Int)) (g3 : (Int → Int)) (g7 : (Int → Int)) (q : (Int → Int) × (Int → Int) × (Int → Int)), zf_M_comesByTwo_l1 x1 x5 x6 f0 g2 g4 g5 g6 g8 n x7 g1 g3 g7 = some q → (good 51 [.inr 0, .inl x1, .inl x2, .inr 1000, .inr 1000, .inr 1000, .inr 1000, .inr 1000] [] [.inl f0] [g0, q.1, g2, q.2.1, g4, g5, g6, q.2.2, g8]) → good 30 [.inr 0, .inl x1, .inl x2, .inr 1000, .inr 1000, .inl x5, .inl x6, .inl x7] [] [.inl f0] [g0, g1, g2, g3, g4, g5, g6, g7, g8] := by
    intro n
    induction n with
    | zero => intro x1 x2 x5 x6 x7 g1 g3 g7 q h; exact absurd (show none = some q from h) (fun h => by cases h)
    | succ n ih =>
      intro x1 x2 x5 x6 x7 g1 g3 g7 q h hK
      replace h : zf_M_comesByTwo_l1_b x1 x5 x6 f0 g2 g4 g5 g6 g8 (zf_M_comesByTwo_l1 x1 x5 x6 f0 g2 g4 g5 g6 g8 n) x7 g1 g3 g7 = some q := h
      unfold zf_M_comesByTwo_l1_b at h
      refine zv_ild hB zd309_30 rfl rfl ?_
      refine zv_ild hB zd309_32 rfl rfl ?_
      refine zv_cge hB zd309_34 rfl (fun hc5 => ?_) (fun hc5 => ?_)
      · rw [if_neg (Int.not_lt.mpr hc5)] at h
        have hq := Option.some.inj h
        subst hq
        refine zv_wk hB (L' := [.inr 0, .inl x1, .inl x2, .inr 1000, .inr 1000, .inr 1000, .inr 1000, .inr 1000]) (F' := [.inl f0]) ⟨fun _ => rfl, fun _ => rfl, fun _ => rfl, fun (h : zv_is (.inr 1000)) => (Nat.lt_irrefl 1000 h).elim, fun (h : zv_is (.inr 1000)) => (Nat.lt_irrefl 1000 h).elim, fun (h : zv_is (.inr 1000)) => (Nat.lt_irrefl 1000 h).elim, fun (h : zv_is (.inr 1000)) => (Nat.lt_irrefl 1000 h).elim, fun (h : zv_is (.inr 1000)) => (Nat.lt_irrefl 1000 h).elim, trivial⟩ ⟨fun _ => rfl, trivial⟩ ?_
        exact hK
      · rw [if_pos hc5] at h
        refine zv_ald hB zd309_37 rfl rfl rfl ?_
        refine zv_ild hB zd309_38 rfl rfl ?_
        refine zv_ild hB zd309_39 rfl rfl ?_
        refine zv_con hB zd309_41 rfl ?_
        obtain ⟨r6, hr6, h⟩ := zi_bind h
        refine zv_cv hB (zv_emq (va2 := [.inr 0, .inl x1, .inl x5, .inl 0]) (F := [.inl f0]) (F' := [.inl f0]) (G := [g0, g1, g2, g3, g4, g5, g6, g7, g8]) (G' := [g0, r6.1, g2, r6.2.1, g4, g5, g6, r6.2.2, g8]) (ρ := [0, 2, 3, 4, 5, 6, 7, 8, 9]) (φ := [0]) (ψ := [1, 2, 3, 4, 5, 6, 7, 8]) [some 0] [none, some 0, some 1, some 2, some 3, some 4, some 5, some 6, some 7] zyw_M_steers zyw_M_comesByTwo zye_M_comesByTwo (by decide +kernel) (zt_M_steers hr6) ⟨⟨_, rfl, fun _ => rfl⟩, trivial⟩ ⟨rfl, rfl, rfl, rfl, rfl, rfl, rfl, rfl, trivial⟩ rfl rfl rfl rfl rfl rfl rfl) zd309_42 zxt290 rfl (by decide) (by decide) rfl ?_
        refine zv_iincw hB zd309_45 rfl rfl ?_
        refine zv_goto hB zd309_48 rfl ?_
        exact ih _ _ _ _ _ _ _ _ q h hK
  unfold zf_M_comesByTwo at h
  refine zv_ald hB zd309_0 rfl rfl rfl ?_
  obtain ⟨r1, hr1, h⟩ := zi_bind h
  refine zv_cv hB (zv_emq (va2 := [.inr 0]) (F := [.inl f0]) (F' := [.inl f0]) (G := [g0, g1, g2, g3, g4, g5, g6, g7, g8]) (G' := [g0, r1, g2, g3, g4, g5, g6, g7, g8]) (ρ := [0, 1, 2]) (φ := []) (ψ := [0, 1]) [none] [some 0, some 1, none, none, none, none, none, none, none] zyw_M_again zyw_M_comesByTwo zye_M_comesByTwo (by decide +kernel) (zt_M_again hr1) trivial ⟨rfl, rfl, trivial⟩ rfl rfl rfl rfl rfl rfl rfl) zd309_1 zxt301 rfl (by decide) (by decide) rfl ?_
  refine zv_con hB zd309_4 rfl ?_
  refine zv_ist hB zd309_5 rfl rfl rfl ?_
  obtain ⟨q4, hq4, h⟩ := zi_bind h
  refine l0 _ _ _ _ _ _ _ _ _ _ _ q4 hq4 ?_
  show good 27 [.inr 0, .inl x1, .inl x2, .inr 1000, .inr 1000, .inl x5, .inl x6, .inr 1000] [] [.inl f0] [g0, q4.1, g2, q4.2.1, g4, g5, g6, q4.2.2, g8]
  refine zv_con hB zd309_27 rfl ?_
  refine zv_ist hB zd309_28 rfl rfl rfl ?_
  obtain ⟨q7, hq7, h⟩ := zi_bind h
  refine l1 _ _ _ _ _ _ _ _ _ q7 hq7 ?_
  show good 51 [.inr 0, .inl x1, .inl x2, .inr 1000, .inr 1000, .inr 1000, .inr 1000, .inr 1000] [] [.inl f0] [g0, q7.1, g2, q7.2.1, g4, g5, g6, q7.2.2, g8]
  refine zv_ald hB zd309_51 rfl rfl rfl ?_
  refine zv_getr hB zd309_52 rfl ?_
  refine zv_con hB zd309_55 rfl ?_
  refine zv_ild hB zd309_57 rfl rfl ?_
  refine zv_addw hB zd309_58 ?_
  obtain ⟨c8, h⟩ := zi_if h
  refine zv_iald hB zd309_59 rfl rfl (zi_ix_ok c8).1 (zi_ix_ok c8).2 (fun _ _ => ?_)
  refine zv_ild hB zd309_60 rfl rfl ?_
  refine zv_cne hB zd309_61 rfl (fun hc9 => ?_) (fun hc9 => ?_)
  · rw [if_neg hc9] at h
    refine zv_con hB zd309_68 rfl ?_
    have hw := Option.some.inj h
    subst hw
    exact hret _ _ _ _ _ zd309_69 (by constructor <;> decide) ⟨rfl, rfl, rfl⟩
  · rw [if_pos hc9] at h
    refine zv_con hB zd309_64 rfl ?_
    refine zv_goto hB zd309_65 rfl ?_
    have hw := Option.some.inj h
    subst hw
    exact hret _ _ _ _ _ zd309_69 (by constructor <;> decide) ⟨rfl, rfl, rfl⟩
end
section
/-! Methods as functions, and that they do what these do. -/
/-! M_laysTwo (III)Z -/
-- names: 0 StarTalesModel('arg', 0), 1 (0, 422)(0, 12, 1), 2 (0, 422)(0, 12, 0), 3 (0, 14)(0, 12, 21), 4 (0, 13)(0, 12, 26), 5 (0, 14)(0, 12, 23), 6 (0, 14)(0, 12, 24), 7 (0, 220)(0, 12, 20), 8 (0, 220)(0, 12, 25), 9 (0, 14)(0, 12, 22)
-- fields: f0 = 0.clauses_, f1 = 0.twoHours_, f2 = 0.twoFirst_, f3 = 0.twoFor_, f4 = 0.twoSecond_; arrays: g0 = 1, g1 = 2, g2 = 3, g3 = 4, g4 = 5, g5 = 6, g6 = 7, g7 = 8, g8 = 9; out: [('ret', None), ('f', 1), ('f', 2), ('f', 3), ('f', 4), ('g', 1), ('g', 3), ('g', 7)]
abbrev zy_M_laysTwo : zNL := (10, [(0, 12)], [(0, 12, 13, 0), (0, 12, 55, 1), (0, 12, 56, 2), (0, 12, 57, 3), (0, 12, 58, 4)], [(0, 12, 1, 1), (0, 12, 0, 2), (0, 12, 21, 3), (0, 12, 26, 4), (0, 12, 23, 5), (0, 12, 24, 6), (0, 12, 20, 7), (0, 12, 25, 8), (0, 12, 22, 9)], [(1, 0, 422, 0), (2, 0, 422, 1), (3, 0, 14, 2), (4, 0, 13, 3), (5, 0, 14, 4), (6, 0, 14, 5), (7, 0, 220, 6), (8, 0, 220, 7), (9, 0, 14, 8)])
theorem zyw_M_laysTwo : zv_wf zy_M_laysTwo = true := by decide +kernel
theorem zye_M_laysTwo : zv_ek2 zy_M_laysTwo = true := by decide +kernel
def zf_M_laysTwo_l3_b (x1 : Int) (x2 : Int) (x4 : Int) (x5 : Int) (x6 : Int) (f0 : Int) (g0 : (Int → Int)) (g2 : (Int → Int)) (g4 : (Int → Int)) (g5 : (Int → Int)) (g6 : (Int → Int)) (g8 : (Int → Int)) (rec : Int → (Int → Int) → (Int → Int) → (Int → Int) → Option ((((Int → Int) × (Int → Int) × (Int → Int)) ⊕ (Int × Int × Int × Int × Int × (Int → Int) × (Int → Int) × (Int → Int))))) (x7 : Int) (g1 : (Int → Int)) (g3 : (Int → Int)) (g7 : (Int → Int)) : Option ((((Int → Int) × (Int → Int) × (Int → Int)) ⊕ (Int × Int × Int × Int × Int × (Int → Int) × (Int → Int) × (Int → Int)))) := if x7 < 24 then ((zf_M_has (g0 126) x7).bind fun r7 => (if r7 = 0 then (rec (zi_w (x7 + 1)) g1 g3 g7) else ((zf_M_comesByTwo x1 x2 x5 x6 x7 (zi_w (x4 - x6)) f0 g0 g1 g2 g3 g4 g5 g6 g7 g8).bind fun r9 => (if r9.1 = 0 then (rec (zi_w (x7 + 1)) r9.2.1 r9.2.2.1 r9.2.2.2) else (some (.inr (1, x4, x5, x6, x7, r9.2.1, r9.2.2.1, r9.2.2.2))))))) else (some (.inl (g1, g3, g7)))
def zf_M_laysTwo_l3 (x1 : Int) (x2 : Int) (x4 : Int) (x5 : Int) (x6 : Int) (f0 : Int) (g0 : (Int → Int)) (g2 : (Int → Int)) (g4 : (Int → Int)) (g5 : (Int → Int)) (g6 : (Int → Int)) (g8 : (Int → Int)) : Nat → Int → (Int → Int) → (Int → Int) → (Int → Int) → Option ((((Int → Int) × (Int → Int) × (Int → Int)) ⊕ (Int × Int × Int × Int × Int × (Int → Int) × (Int → Int) × (Int → Int))))
  | 0, _, _, _, _ => none
  | n + 1, x7, g1, g3, g7 => zf_M_laysTwo_l3_b x1 x2 x4 x5 x6 f0 g0 g2 g4 g5 g6 g8 (zf_M_laysTwo_l3 x1 x2 x4 x5 x6 f0 g0 g2 g4 g5 g6 g8 n) x7 g1 g3 g7
def zf_M_laysTwo_l2_b (x1 : Int) (x2 : Int) (x4 : Int) (x5 : Int) (f0 : Int) (g0 : (Int → Int)) (g2 : (Int → Int)) (g4 : (Int → Int)) (g5 : (Int → Int)) (g6 : (Int → Int)) (g8 : (Int → Int)) (rec : Int → (Int → Int) → (Int → Int) → (Int → Int) → Option ((((Int → Int) × (Int → Int) × (Int → Int)) ⊕ (Int × Int × Int × Int × Int × (Int → Int) × (Int → Int) × (Int → Int))))) (x6 : Int) (g1 : (Int → Int)) (g3 : (Int → Int)) (g7 : (Int → Int)) : Option ((((Int → Int) × (Int → Int) × (Int → Int)) ⊕ (Int × Int × Int × Int × Int × (Int → Int) × (Int → Int) × (Int → Int)))) := if x6 < x4 then ((zf_M_has (g0 126) x5).bind fun r4 => (if r4 = 0 then (some (.inl (g1, g3, g7))) else ((zf_M_laysTwo_l3 x1 x2 x4 x5 x6 f0 g0 g2 g4 g5 g6 g8 zi_fu 0 g1 g3 g7).bind fun q11 => Sum.elim (fun e12 => (rec (zi_w (x6 + 1)) e12.1 e12.2.1 e12.2.2)) (fun w13 => some (.inr w13)) q11))) else (some (.inl (g1, g3, g7)))
def zf_M_laysTwo_l2 (x1 : Int) (x2 : Int) (x4 : Int) (x5 : Int) (f0 : Int) (g0 : (Int → Int)) (g2 : (Int → Int)) (g4 : (Int → Int)) (g5 : (Int → Int)) (g6 : (Int → Int)) (g8 : (Int → Int)) : Nat → Int → (Int → Int) → (Int → Int) → (Int → Int) → Option ((((Int → Int) × (Int → Int) × (Int → Int)) ⊕ (Int × Int × Int × Int × Int × (Int → Int) × (Int → Int) × (Int → Int))))
  | 0, _, _, _, _ => none
  | n + 1, x6, g1, g3, g7 => zf_M_laysTwo_l2_b x1 x2 x4 x5 f0 g0 g2 g4 g5 g6 g8 (zf_M_laysTwo_l2 x1 x2 x4 x5 f0 g0 g2 g4 g5 g6 g8 n) x6 g1 g3 g7
def zf_M_laysTwo_l1_b (x1 : Int) (x2 : Int) (x4 : Int) (f0 : Int) (g0 : (Int → Int)) (g2 : (Int → Int)) (g4 : (Int → Int)) (g5 : (Int → Int)) (g6 : (Int → Int)) (g8 : (Int → Int)) (rec : Int → (Int → Int) → (Int → Int) → (Int → Int) → Option ((((Int → Int) × (Int → Int) × (Int → Int)) ⊕ (Int × Int × Int × Int × Int × (Int → Int) × (Int → Int) × (Int → Int))))) (x5 : Int) (g1 : (Int → Int)) (g3 : (Int → Int)) (g7 : (Int → Int)) : Option ((((Int → Int) × (Int → Int) × (Int → Int)) ⊕ (Int × Int × Int × Int × Int × (Int → Int) × (Int → Int) × (Int → Int)))) := if x5 < 24 then ((zf_M_laysTwo_l2 x1 x2 x4 x5 f0 g0 g2 g4 g5 g6 g8 zi_fu 1 g1 g3 g7).bind fun q14 => Sum.elim (fun e15 => (rec (zi_w (x5 + 1)) e15.1 e15.2.1 e15.2.2)) (fun w16 => some (.inr w16)) q14) else (some (.inl (g1, g3, g7)))
def zf_M_laysTwo_l1 (x1 : Int) (x2 : Int) (x4 : Int) (f0 : Int) (g0 : (Int → Int)) (g2 : (Int → Int)) (g4 : (Int → Int)) (g5 : (Int → Int)) (g6 : (Int → Int)) (g8 : (Int → Int)) : Nat → Int → (Int → Int) → (Int → Int) → (Int → Int) → Option ((((Int → Int) × (Int → Int) × (Int → Int)) ⊕ (Int × Int × Int × Int × Int × (Int → Int) × (Int → Int) × (Int → Int))))
  | 0, _, _, _, _ => none
  | n + 1, x5, g1, g3, g7 => zf_M_laysTwo_l1_b x1 x2 x4 f0 g0 g2 g4 g5 g6 g8 (zf_M_laysTwo_l1 x1 x2 x4 f0 g0 g2 g4 g5 g6 g8 n) x5 g1 g3 g7
def zf_M_laysTwo_l0_b (x1 : Int) (x2 : Int) (x3 : Int) (f0 : Int) (g0 : (Int → Int)) (g2 : (Int → Int)) (g4 : (Int → Int)) (g5 : (Int → Int)) (g6 : (Int → Int)) (g8 : (Int → Int)) (rec : Int → (Int → Int) → (Int → Int) → (Int → Int) → Option ((((Int → Int) × (Int → Int) × (Int → Int)) ⊕ (Int × Int × Int × Int × Int × (Int → Int) × (Int → Int) × (Int → Int))))) (x4 : Int) (g1 : (Int → Int)) (g3 : (Int → Int)) (g7 : (Int → Int)) : Option ((((Int → Int) × (Int → Int) × (Int → Int)) ⊕ (Int × Int × Int × Int × Int × (Int → Int) × (Int → Int) × (Int → Int)))) := if x3 < x4 then (some (.inl (g1, g3, g7))) else ((zf_M_laysTwo_l1 x1 x2 x4 f0 g0 g2 g4 g5 g6 g8 zi_fu 0 g1 g3 g7).bind fun q17 => Sum.elim (fun e18 => (rec (zi_w (x4 + 1)) e18.1 e18.2.1 e18.2.2)) (fun w19 => some (.inr w19)) q17)
def zf_M_laysTwo_l0 (x1 : Int) (x2 : Int) (x3 : Int) (f0 : Int) (g0 : (Int → Int)) (g2 : (Int → Int)) (g4 : (Int → Int)) (g5 : (Int → Int)) (g6 : (Int → Int)) (g8 : (Int → Int)) : Nat → Int → (Int → Int) → (Int → Int) → (Int → Int) → Option ((((Int → Int) × (Int → Int) × (Int → Int)) ⊕ (Int × Int × Int × Int × Int × (Int → Int) × (Int → Int) × (Int → Int))))
  | 0, _, _, _, _ => none
  | n + 1, x4, g1, g3, g7 => zf_M_laysTwo_l0_b x1 x2 x3 f0 g0 g2 g4 g5 g6 g8 (zf_M_laysTwo_l0 x1 x2 x3 f0 g0 g2 g4 g5 g6 g8 n) x4 g1 g3 g7
def zf_M_laysTwo (x1 : Int) (x2 : Int) (x3 : Int) (f0 : Int) (f1 : Int) (f2 : Int) (f3 : Int) (f4 : Int) (g0 : (Int → Int)) (g1 : (Int → Int)) (g2 : (Int → Int)) (g3 : (Int → Int)) (g4 : (Int → Int)) (g5 : (Int → Int)) (g6 : (Int → Int)) (g7 : (Int → Int)) (g8 : (Int → Int)) : Option (Int × Int × Int × Int × Int × (Int → Int) × (Int → Int) × (Int → Int)) := (zf_M_laysTwo_l0 x1 x2 x3 f0 g0 g2 g4 g5 g6 g8 zi_fu 2 g1 g3 g7).bind fun q20 => Sum.elim (fun e21 => (some (0, f1, f2, f3, f4, e21.1, e21.2.1, e21.2.2))) (fun w22 => some w22) q20
theorem zd308_0 : decode zxm308.2.1 0 = .ok (.iconst 2, 1) := by decide +kernel
theorem zd308_1 : decode zxm308.2.1 1 = .ok (.istore 4, 2) := by decide +kernel
theorem zd308_3 : decode zxm308.2.1 3 = .ok (.iload 4, 2) := by decide +kernel
theorem zd308_5 : decode zxm308.2.1 5 = .ok (.iload_n 3, 1) := by decide +kernel
theorem zd308_6 : decode zxm308.2.1 6 = .ok (.if_icmp .gt 136, 3) := by decide +kernel
theorem zd308_9 : decode zxm308.2.1 9 = .ok (.iconst 0, 1) := by decide +kernel
theorem zd308_10 : decode zxm308.2.1 10 = .ok (.istore 5, 2) := by decide +kernel
theorem zd308_12 : decode zxm308.2.1 12 = .ok (.iload 5, 2) := by decide +kernel
theorem zd308_14 : decode zxm308.2.1 14 = .ok (.bipush 24, 2) := by decide +kernel
theorem zd308_16 : decode zxm308.2.1 16 = .ok (.if_icmp .ge 120, 3) := by decide +kernel
theorem zd308_19 : decode zxm308.2.1 19 = .ok (.iconst 1, 1) := by decide +kernel
theorem zd308_20 : decode zxm308.2.1 20 = .ok (.istore 6, 2) := by decide +kernel
theorem zd308_22 : decode zxm308.2.1 22 = .ok (.iload 6, 2) := by decide +kernel
theorem zd308_24 : decode zxm308.2.1 24 = .ok (.iload 4, 2) := by decide +kernel
theorem zd308_26 : decode zxm308.2.1 26 = .ok (.if_icmp .ge 104, 3) := by decide +kernel
theorem zd308_29 : decode zxm308.2.1 29 = .ok (.aload_n 0, 1) := by decide +kernel
theorem zd308_30 : decode zxm308.2.1 30 = .ok (.getfield 13, 3) := by decide +kernel
theorem zd308_33 : decode zxm308.2.1 33 = .ok (.bipush 126, 2) := by decide +kernel
theorem zd308_35 : decode zxm308.2.1 35 = .ok (.iaload, 1) := by decide +kernel
theorem zd308_36 : decode zxm308.2.1 36 = .ok (.iload 5, 2) := by decide +kernel
theorem zd308_38 : decode zxm308.2.1 38 = .ok (.invokestatic 138, 3) := by decide +kernel
theorem zd308_41 : decode zxm308.2.1 41 = .ok (.ifCond .eq 89, 3) := by decide +kernel
theorem zd308_44 : decode zxm308.2.1 44 = .ok (.iconst 0, 1) := by decide +kernel
theorem zd308_45 : decode zxm308.2.1 45 = .ok (.istore 7, 2) := by decide +kernel
theorem zd308_47 : decode zxm308.2.1 47 = .ok (.iload 7, 2) := by decide +kernel
theorem zd308_49 : decode zxm308.2.1 49 = .ok (.bipush 24, 2) := by decide +kernel
theorem zd308_51 : decode zxm308.2.1 51 = .ok (.if_icmp .ge 73, 3) := by decide +kernel
theorem zd308_54 : decode zxm308.2.1 54 = .ok (.aload_n 0, 1) := by decide +kernel
theorem zd308_55 : decode zxm308.2.1 55 = .ok (.getfield 13, 3) := by decide +kernel
theorem zd308_58 : decode zxm308.2.1 58 = .ok (.bipush 126, 2) := by decide +kernel
theorem zd308_60 : decode zxm308.2.1 60 = .ok (.iaload, 1) := by decide +kernel
theorem zd308_61 : decode zxm308.2.1 61 = .ok (.iload 7, 2) := by decide +kernel
theorem zd308_63 : decode zxm308.2.1 63 = .ok (.invokestatic 138, 3) := by decide +kernel
theorem zd308_66 : decode zxm308.2.1 66 = .ok (.ifCond .eq 52, 3) := by decide +kernel
theorem zd308_69 : decode zxm308.2.1 69 = .ok (.aload_n 0, 1) := by decide +kernel
theorem zd308_70 : decode zxm308.2.1 70 = .ok (.iload_n 1, 1) := by decide +kernel
theorem zd308_71 : decode zxm308.2.1 71 = .ok (.iload_n 2, 1) := by decide +kernel
theorem zd308_72 : decode zxm308.2.1 72 = .ok (.iload 5, 2) := by decide +kernel
theorem zd308_74 : decode zxm308.2.1 74 = .ok (.iload 6, 2) := by decide +kernel
theorem zd308_76 : decode zxm308.2.1 76 = .ok (.iload 7, 2) := by decide +kernel
theorem zd308_78 : decode zxm308.2.1 78 = .ok (.iload 4, 2) := by decide +kernel
theorem zd308_80 : decode zxm308.2.1 80 = .ok (.iload 6, 2) := by decide +kernel
theorem zd308_82 : decode zxm308.2.1 82 = .ok (.isub, 1) := by decide +kernel
theorem zd308_83 : decode zxm308.2.1 83 = .ok (.invokevirtual 450, 3) := by decide +kernel
theorem zd308_86 : decode zxm308.2.1 86 = .ok (.ifCond .ne 6, 3) := by decide +kernel
theorem zd308_89 : decode zxm308.2.1 89 = .ok (.goto 29, 3) := by decide +kernel
theorem zd308_92 : decode zxm308.2.1 92 = .ok (.aload_n 0, 1) := by decide +kernel
theorem zd308_93 : decode zxm308.2.1 93 = .ok (.iload 4, 2) := by decide +kernel
theorem zd308_95 : decode zxm308.2.1 95 = .ok (.putfield 454, 3) := by decide +kernel
theorem zd308_98 : decode zxm308.2.1 98 = .ok (.aload_n 0, 1) := by decide +kernel
theorem zd308_99 : decode zxm308.2.1 99 = .ok (.iload 5, 2) := by decide +kernel
theorem zd308_101 : decode zxm308.2.1 101 = .ok (.putfield 457, 3) := by decide +kernel
theorem zd308_104 : decode zxm308.2.1 104 = .ok (.aload_n 0, 1) := by decide +kernel
theorem zd308_105 : decode zxm308.2.1 105 = .ok (.iload 6, 2) := by decide +kernel
theorem zd308_107 : decode zxm308.2.1 107 = .ok (.putfield 460, 3) := by decide +kernel
theorem zd308_110 : decode zxm308.2.1 110 = .ok (.aload_n 0, 1) := by decide +kernel
theorem zd308_111 : decode zxm308.2.1 111 = .ok (.iload 7, 2) := by decide +kernel
theorem zd308_113 : decode zxm308.2.1 113 = .ok (.putfield 463, 3) := by decide +kernel
theorem zd308_116 : decode zxm308.2.1 116 = .ok (.iconst 1, 1) := by decide +kernel
theorem zd308_117 : decode zxm308.2.1 117 = .ok (.ireturn, 1) := by decide +kernel
theorem zd308_118 : decode zxm308.2.1 118 = .ok (.iinc 7 1, 3) := by decide +kernel
theorem zd308_121 : decode zxm308.2.1 121 = .ok (.goto (-74), 3) := by decide +kernel
theorem zd308_124 : decode zxm308.2.1 124 = .ok (.iinc 6 1, 3) := by decide +kernel
theorem zd308_127 : decode zxm308.2.1 127 = .ok (.goto (-105), 3) := by decide +kernel
theorem zd308_130 : decode zxm308.2.1 130 = .ok (.iinc 5 1, 3) := by decide +kernel
theorem zd308_133 : decode zxm308.2.1 133 = .ok (.goto (-121), 3) := by decide +kernel
theorem zd308_136 : decode zxm308.2.1 136 = .ok (.iinc 4 1, 3) := by decide +kernel
theorem zd308_139 : decode zxm308.2.1 139 = .ok (.goto (-136), 3) := by decide +kernel
theorem zd308_142 : decode zxm308.2.1 142 = .ok (.iconst 0, 1) := by decide +kernel
theorem zd308_143 : decode zxm308.2.1 143 = .ok (.ireturn, 1) := by decide +kernel
theorem zt_M_laysTwo {x1 : Int} {x2 : Int} {x3 : Int} {f0 : Int} {f1 : Int} {f2 : Int} {f3 : Int} {f4 : Int} {g0 : (Int → Int)} {g1 : (Int → Int)} {g2 : (Int → Int)} {g3 : (Int → Int)} {g4 : (Int → Int)} {g5 : (Int → Int)} {g6 : (Int → Int)} {g7 : (Int → Int)} {g8 : (Int → Int)} {o : Int × Int × Int × Int × Int × (Int → Int) × (Int → Int) × (Int → Int)} (h : zf_M_laysTwo x1 x2 x3 f0 f1 f2 f3 f4 g0 g1 g2 g3 g4 g5 g6 g7 g8 = some o) : zv_Fn z_TB z_cl z_KX zy_M_laysTwo zxm308 (7, 420) [.inr 0, .inl x1, .inl x2, .inl x3] [.inl f0, .inl f1, .inl f2, .inl f3, .inl f4] [g0, g1, g2, g3, g4, g5, g6, g7, g8] (some o.1) [.inl f0, .inl o.2.1, .inl o.2.2.1, .inl o.2.2.2.1, .inl o.2.2.2.2.1] [g0, o.2.2.2.2.2.1, g2, o.2.2.2.2.2.2.1, g4, g5, g6, o.2.2.2.2.2.2.2, g8] := zv_meth (K := (z_KF13, z_KC13, z_KL13, z_KT13, [], [], [], none)) (FT := z_FT) (MT := z_MT) (n := 4) zxp308 (z_ks13 _ (fun _ h => List.mem_cons_of_mem _ h) _ _ _ _ (fun j r h _ => by cases h)) (fun _ _ => zs_KX_p) zyw_M_laysTwo (fun va F G h => by obtain ⟨rfl, _⟩ := h; rfl) (fun va F G h => by obtain ⟨rfl, _⟩ := h; rfl) rfl fun good va F G hB hret hvret hP => by
  obtain ⟨rfl, rfl, rfl⟩ := hP
  have l3 : ∀ (n : Nat) (x1 : Int) (x2 : Int) (x3 : Int) (x4 : Int) (x5 : Int) (x6 : Int) (x7 : Int) (f1 : Int) (f2 : Int) (f3 : Int) (f4 : Int) (g1 : (Int → Int)) (g3 : (Int → Int)) (g7 : (Int → Int)) (q : (((Int → Int) × (Int → Int) × (Int → Int)) ⊕ (Int × Int × Int × Int × Int × (Int → Int) × (Int → Int) × (Int → Int)))), zf_M_laysTwo_l3 x1 x2 x4 x5 x6 f0 g0 g2 g4 g5 g6 g8 n x7 g1 g3 g7 = some q → (Sum.elim (fun e : (Int → Int) × (Int → Int) × (Int → Int) => good 124 [.inr 0, .inl x1, .inl x2, .inl x3, .inl x4, .inl x5, .inl x6, .inr 1000] [] [.inl f0, .inl f1, .inl f2, .inl f3, .inl f4] [g0, e.1, g2, e.2.1, g4, g5, g6, e.2.2, g8]) (fun w : Int × Int × Int × Int × Int × (Int → Int) × (Int → Int) × (Int → Int) => w = o) q) → good 47 [.inr 0, .inl x1, .inl x2, .inl x3, .inl x4, .inl x5, .inl x6, .inl x7] [] [.inl f0, .inl f1, .inl f2, .inl f3, .inl f4] [g0, g1, g2, g3, g4, g5, g6, g7, g8] := by
    intro n
    induction n with
    | zero => intro x1 x2 x3 x4 x5 x6 x7 f1 f2 f3 f4 g1 g3 g7 q h; exact absurd (show none = some q from h) (fun h => by cases h)
    | succ n ih =>
      intro x1 x2 x3 x4 x5 x6 x7 f1 f2 f3 f4 g1 g3 g7 q h hK
      replace h : zf_M_laysTwo_l3_b x1 x2 x4 x5 x6 f0 g0 g2 g4 g5 g6 g8 (zf_M_laysTwo_l3 x1 x2 x4 x5 x6 f0 g0 g2 g4 g5 g6 g8 n) x7 g1 g3 g7 = some q := h
      unfold zf_M_laysTwo_l3_b at h
      refine zv_ild hB zd308_47 rfl rfl ?_
      refine zv_con hB zd308_49 rfl ?_
      refine zv_cge hB zd308_51 rfl (fun hc6 => ?_) (fun hc6 => ?_)
      · rw [if_neg (Int.not_lt.mpr hc6)] at h
        have hq := Option.some.inj h
        subst hq
        refine zv_wk hB (L' := [.inr 0, .inl x1, .inl x2, .inl x3, .inl x4, .inl x5, .inl x6, .inr 1000]) (F' := [.inl f0, .inl f1, .inl f2, .inl f3, .inl f4]) ⟨fun _ => rfl, fun _ => rfl, fun _ => rfl, fun _ => rfl, fun _ => rfl, fun _ => rfl, fun _ => rfl, fun (h : zv_is (.inr 1000)) => (Nat.lt_irrefl 1000 h).elim, trivial⟩ ⟨fun _ => rfl, fun _ => rfl, fun _ => rfl, fun _ => rfl, fun _ => rfl, trivial⟩ ?_
        exact hK
      · rw [if_pos hc6] at h
        refine zv_ald hB zd308_54 rfl rfl rfl ?_
        refine zv_getr hB zd308_55 rfl ?_
        refine zv_con hB zd308_58 rfl ?_
        refine zv_iald hB zd308_60 rfl rfl (by decide) (by decide) (fun _ _ => ?_)
        refine zv_ild hB zd308_61 rfl rfl ?_
        obtain ⟨r7, hr7, h⟩ := zi_bind h
        refine zv_cs hB (zv_emq (va2 := [.inl (g0 126), .inl x7]) (F := [.inl f0, .inl f1, .inl f2, .inl f3, .inl f4]) (F' := [.inl f0, .inl f1, .inl f2, .inl f3, .inl f4]) (G := [g0, g1, g2, g3, g4, g5, g6, g7, g8]) (G' := [g0, g1, g2, g3, g4, g5, g6, g7, g8]) (ρ := []) (φ := []) (ψ := []) [none, none, none, none, none] [none, none, none, none, none, none, none, none, none] zyw_M_has zyw_M_laysTwo zye_M_laysTwo (by decide +kernel) (zt_M_has hr7) trivial trivial rfl rfl rfl rfl rfl rfl rfl) zd308_63 zxt204 rfl (by decide) (by decide) rfl ?_
        refine zv_zeq hB zd308_66 rfl (fun hc8 => ?_) (fun hc8 => ?_)
        · rw [if_pos hc8] at h
          refine zv_iincw hB zd308_118 rfl rfl ?_
          refine zv_goto hB zd308_121 rfl ?_
          exact ih _ _ _ _ _ _ _ _ _ _ _ _ _ _ q h hK
        · rw [if_neg hc8] at h
          refine zv_ald hB zd308_69 rfl rfl rfl ?_
          refine zv_ild hB zd308_70 rfl rfl ?_
          refine zv_ild hB zd308_71 rfl rfl ?_
          refine zv_ild hB zd308_72 rfl rfl ?_
          refine zv_ild hB zd308_74 rfl rfl ?_
          refine zv_ild hB zd308_76 rfl rfl ?_
          refine zv_ild hB zd308_78 rfl rfl ?_
          refine zv_ild hB zd308_80 rfl rfl ?_
          refine zv_subw hB zd308_82 ?_
          obtain ⟨r9, hr9, h⟩ := zi_bind h
          refine zv_cv hB (zv_emq (va2 := [.inr 0, .inl x1, .inl x2, .inl x5, .inl x6, .inl x7, .inl (zi_w (x4 - x6))]) (F := [.inl f0, .inl f1, .inl f2, .inl f3, .inl f4]) (F' := [.inl f0, .inl f1, .inl f2, .inl f3, .inl f4]) (G := [g0, g1, g2, g3, g4, g5, g6, g7, g8]) (G' := [g0, r9.2.1, g2, r9.2.2.1, g4, g5, g6, r9.2.2.2, g8]) (ρ := [0, 1, 2, 3, 4, 5, 6, 7, 8, 9]) (φ := [0]) (ψ := [0, 1, 2, 3, 4, 5, 6, 7, 8]) [some 0, none, none, none, none] [some 0, some 1, some 2, some 3, some 4, some 5, some 6, some 7, some 8] zyw_M_comesByTwo zyw_M_laysTwo zye_M_laysTwo (by decide +kernel) (zt_M_comesByTwo hr9) ⟨⟨_, rfl, fun _ => rfl⟩, trivial⟩ ⟨rfl, rfl, rfl, rfl, rfl, rfl, rfl, rfl, rfl, trivial⟩ rfl rfl rfl rfl rfl rfl rfl) zd308_83 zxt309 rfl (by decide) (by decide) rfl ?_
          refine zv_zne hB zd308_86 rfl (fun hc10 => ?_) (fun hc10 => ?_)
          · rw [if_neg hc10] at h
            refine zv_ald hB zd308_92 rfl rfl rfl ?_
            refine zv_ild hB zd308_93 rfl rfl ?_
            refine zv_putf hB zd308_95 rfl rfl (fun h => by cases h) rfl ?_
            refine zv_ald hB zd308_98 rfl rfl rfl ?_
            refine zv_ild hB zd308_99 rfl rfl ?_
            refine zv_putf hB zd308_101 rfl rfl (fun h => by cases h) rfl ?_
            refine zv_ald hB zd308_104 rfl rfl rfl ?_
            refine zv_ild hB zd308_105 rfl rfl ?_
            refine zv_putf hB zd308_107 rfl rfl (fun h => by cases h) rfl ?_
            refine zv_ald hB zd308_110 rfl rfl rfl ?_
            refine zv_ild hB zd308_111 rfl rfl ?_
            refine zv_putf hB zd308_113 rfl rfl (fun h => by cases h) rfl ?_
            refine zv_con hB zd308_116 rfl ?_
            have hw : (1, x4, x5, x6, x7, r9.2.1, r9.2.2.1, r9.2.2.2) = o := zi_rk (Option.some.inj h) hK
            subst hw
            exact hret _ _ _ _ _ zd308_117 (by constructor <;> decide) ⟨rfl, rfl, rfl⟩
          · rw [if_pos hc10] at h
            refine zv_goto hB zd308_89 rfl ?_
            refine zv_iincw hB zd308_118 rfl rfl ?_
            refine zv_goto hB zd308_121 rfl ?_
            exact ih _ _ _ _ _ _ _ _ _ _ _ _ _ _ q h hK
  have l2 : ∀ (n : Nat) (x1 : Int) (x2 : Int) (x3 : Int) (x4 : Int) (x5 : Int) (x6 : Int) (f1 : Int) (f2 : Int) (f3 : Int) (f4 : Int) (g1 : (Int → Int)) (g3 : (Int → Int)) (g7 : (Int → Int)) (q : (((Int → Int) × (Int → Int) × (Int → Int)) ⊕ (Int × Int × Int × Int × Int × (Int → Int) × (Int → Int) × (Int → Int)))), zf_M_laysTwo_l2 x1 x2 x4 x5 f0 g0 g2 g4 g5 g6 g8 n x6 g1 g3 g7 = some q → (Sum.elim (fun e : (Int → Int) × (Int → Int) × (Int → Int) => good 130 [.inr 0, .inl x1, .inl x2, .inl x3, .inl x4, .inl x5, .inr 1000, .inr 1000] [] [.inl f0, .inl f1, .inl f2, .inl f3, .inl f4] [g0, e.1, g2, e.2.1, g4, g5, g6, e.2.2, g8]) (fun w : Int × Int × Int × Int × Int × (Int → Int) × (Int → Int) × (Int → Int) => w = o) q) → good 22 [.inr 0, .inl x1, .inl x2, .inl x3, .inl x4, .inl x5, .inl x6, .inr 1000] [] [.inl f0, .inl f1, .inl f2, .inl f3, .inl f4] [g0, g1, g2, g3, g4, g5, g6, g7, g8] := by
    intro n
    induction n with
    | zero => intro x1 x2 x3 x4 x5 x6 f1 f2 f3 f4 g1 g3 g7 q h; exact absurd (show none = some q from h) (fun h => by cases h)
    | succ n ih =>
      intro x1 x2 x3 x4 x5 x6 f1 f2 f3 f4 g1 g3 g7 q h hK
      replace h : zf_M_laysTwo_l2_b x1 x2 x4 x5 f0 g0 g2 g4 g5 g6 g8 (zf_M_laysTwo_l2 x1 x2 x4 x5 f0 g0 g2 g4 g5 g6 g8 n) x6 g1 g3 g7 = some q := h
      unfold zf_M_laysTwo_l2_b at h
      refine zv_ild hB zd308_22 rfl rfl ?_
      refine zv_ild hB zd308_24 rfl rfl ?_
      refine zv_cge hB zd308_26 rfl (fun hc3 => ?_) (fun hc3 => ?_)
      · rw [if_neg (Int.not_lt.mpr hc3)] at h
        have hq := Option.some.inj h
        subst hq
        refine zv_wk hB (L' := [.inr 0, .inl x1, .inl x2, .inl x3, .inl x4, .inl x5, .inr 1000, .inr 1000]) (F' := [.inl f0, .inl f1, .inl f2, .inl f3, .inl f4]) ⟨fun _ => rfl, fun _ => rfl, fun _ => rfl, fun _ => rfl, fun _ => rfl, fun _ => rfl, fun (h : zv_is (.inr 1000)) => (Nat.lt_irrefl 1000 h).elim, fun (h : zv_is (.inr 1000)) => (Nat.lt_irrefl 1000 h).elim, trivial⟩ ⟨fun _ => rfl, fun _ => rfl, fun _ => rfl, fun _ => rfl, fun _ => rfl, trivial⟩ ?_
        exact hK
      · rw [if_pos hc3] at h
        refine zv_ald hB zd308_29 rfl rfl rfl ?_
        refine zv_getr hB zd308_30 rfl ?_
        refine zv_con hB zd308_33 rfl ?_
        refine zv_iald hB zd308_35 rfl rfl (by decide) (by decide) (fun _ _ => ?_)
        refine zv_ild hB zd308_36 rfl rfl ?_
        obtain ⟨r4, hr4, h⟩ := zi_bind h
        refine zv_cs hB (zv_emq (va2 := [.inl (g0 126), .inl x5]) (F := [.inl f0, .inl f1, .inl f2, .inl f3, .inl f4]) (F' := [.inl f0, .inl f1, .inl f2, .inl f3, .inl f4]) (G := [g0, g1, g2, g3, g4, g5, g6, g7, g8]) (G' := [g0, g1, g2, g3, g4, g5, g6, g7, g8]) (ρ := []) (φ := []) (ψ := []) [none, none, none, none, none] [none, none, none, none, none, none, none, none, none] zyw_M_has zyw_M_laysTwo zye_M_laysTwo (by decide +kernel) (zt_M_has hr4) trivial trivial rfl rfl rfl rfl rfl rfl rfl) zd308_38 zxt204 rfl (by decide) (by decide) rfl ?_
        refine zv_zeq hB zd308_41 rfl (fun hc5 => ?_) (fun hc5 => ?_)
        · rw [if_pos hc5] at h
          have hq := Option.some.inj h
          subst hq
          refine zv_wk hB (L' := [.inr 0, .inl x1, .inl x2, .inl x3, .inl x4, .inl x5, .inr 1000, .inr 1000]) (F' := [.inl f0, .inl f1, .inl f2, .inl f3, .inl f4]) ⟨fun _ => rfl, fun _ => rfl, fun _ => rfl, fun _ => rfl, fun _ => rfl, fun _ => rfl, fun (h : zv_is (.inr 1000)) => (Nat.lt_irrefl 1000 h).elim, fun (h : zv_is (.inr 1000)) => (Nat.lt_irrefl 1000 h).elim, trivial⟩ ⟨fun _ => rfl, fun _ => rfl, fun _ => rfl, fun _ => rfl, fun _ => rfl, trivial⟩ ?_
          exact hK
        · rw [if_neg hc5] at h
          refine zv_con hB zd308_44 rfl ?_
          refine zv_ist hB zd308_45 rfl rfl rfl ?_
          obtain ⟨q11, hq11, h⟩ := zi_bind h
          refine l3 _ _ _ _ _ _ _ _ _ _ _ _ _ _ _ q11 hq11 ?_
          rcases q11 with e12 | w13
          · replace h := zi_sl h
            show good 124 [.inr 0, .inl x1, .inl x2, .inl x3, .inl x4, .inl x5, .inl x6, .inr 1000] [] [.inl f0, .inl f1, .inl f2, .inl f3, .inl f4] [g0, e12.1, g2, e12.2.1, g4, g5, g6, e12.2.2, g8]
            refine zv_iincw hB zd308_124 rfl rfl ?_
            refine zv_goto hB zd308_127 rfl ?_
            exact ih _ _ _ _ _ _ _ _ _ _ _ _ _ q h hK
          · exact zi_rk (Option.some.inj h) hK
  have l1 : ∀ (n : Nat) (x1 : Int) (x2 : Int) (x3 : Int) (x4 : Int) (x5 : Int) (f1 : Int) (f2 : Int) (f3 : Int) (f4 : Int) (g1 : (Int → Int)) (g3 : (Int → Int)) (g7 : (Int → Int)) (q : (((Int → Int) × (Int → Int) × (Int → Int)) ⊕ (Int × Int × Int × Int × Int × (Int → Int) × (Int → Int) × (Int → Int)))), zf_M_laysTwo_l1 x1 x2 x4 f0 g0 g2 g4 g5 g6 g8 n x5 g1 g3 g7 = some q → (Sum.elim (fun e : (Int → Int) × (Int → Int) × (Int → Int) => good 136 [.inr 0, .inl x1, .inl x2, .inl x3, .inl x4, .inr 1000, .inr 1000, .inr 1000] [] [.inl f0, .inl f1, .inl f2, .inl f3, .inl f4] [g0, e.1, g2, e.2.1, g4, g5, g6, e.2.2, g8]) (fun w : Int × Int × Int × Int × Int × (Int → Int) × (Int → Int) × (Int → Int) => w = o) q) → good 12 [.inr 0, .inl x1, .inl x2, .inl x3, .inl x4, .inl x5, .inr 1000, .inr 1000] [] [.inl f0, .inl f1, .inl f2, .inl f3, .inl f4] [g0, g1, g2, g3, g4, g5, g6, g7, g8] := by
    intro n
    induction n with
    | zero => intro x1 x2 x3 x4 x5 f1 f2 f3 f4 g1 g3 g7 q h; exact absurd (show none = some q from h) (fun h => by cases h)
    | succ n ih =>
      intro x1 x2 x3 x4 x5 f1 f2 f3 f4 g1 g3 g7 q h hK
      replace h : zf_M_laysTwo_l1_b x1 x2 x4 f0 g0 g2 g4 g5 g6 g8 (zf_M_laysTwo_l1 x1 x2 x4 f0 g0 g2 g4 g5 g6 g8 n) x5 g1 g3 g7 = some q := h
      unfold zf_M_laysTwo_l1_b at h
      refine zv_ild hB zd308_12 rfl rfl ?_
      refine zv_con hB zd308_14 rfl ?_
      refine zv_cge hB zd308_16 rfl (fun hc2 => ?_) (fun hc2 => ?_)
      · rw [if_neg (Int.not_lt.mpr hc2)] at h
        have hq := Option.some.inj h
        subst hq
        refine zv_wk hB (L' := [.inr 0, .inl x1, .inl x2, .inl x3, .inl x4, .inr 1000, .inr 1000, .inr 1000]) (F' := [.inl f0, .inl f1, .inl f2, .inl f3, .inl f4]) ⟨fun _ => rfl, fun _ => rfl, fun _ => rfl, fun _ => rfl, fun _ => rfl, fun (h : zv_is (.inr 1000)) => (Nat.lt_irrefl 1000 h).elim, fun (h : zv_is (.inr 1000)) => (Nat.lt_irrefl 1000 h).elim, fun (h : zv_is (.inr 1000)) => (Nat.lt_irrefl 1000 h).elim, trivial⟩ ⟨fun _ => rfl, fun _ => rfl, fun _ => rfl, fun _ => rfl, fun _ => rfl, trivial⟩ ?_
        exact hK
      · rw [if_pos hc2] at h
        refine zv_con hB zd308_19 rfl ?_
        refine zv_ist hB zd308_20 rfl rfl rfl ?_
        obtain ⟨q14, hq14, h⟩ := zi_bind h
        refine l2 _ _ _ _ _ _ _ _ _ _ _ _ _ _ q14 hq14 ?_
        rcases q14 with e15 | w16
        · replace h := zi_sl h
          show good 130 [.inr 0, .inl x1, .inl x2, .inl x3, .inl x4, .inl x5, .inr 1000, .inr 1000] [] [.inl f0, .inl f1, .inl f2, .inl f3, .inl f4] [g0, e15.1, g2, e15.2.1, g4, g5, g6, e15.2.2, g8]
          refine zv_iincw hB zd308_130 rfl rfl ?_
          refine zv_goto hB zd308_133 rfl ?_
          exact ih _ _ _ _ _ _ _ _ _ _ _ _ q h hK
        · exact zi_rk (Option.some.inj h) hK
  have l0 : ∀ (n : Nat) (x1 : Int) (x2 : Int) (x3 : Int) (x4 : Int) (f1 : Int) (f2 : Int) (f3 : Int) (f4 : Int) (g1 : (Int → Int)) (g3 : (Int → Int)) (g7 : (Int → Int)) (q : (((Int → Int) × (Int → Int) × (Int → Int)) ⊕ (Int × Int × Int × Int × Int × (Int → Int) × (Int → Int) × (Int → Int)))), zf_M_laysTwo_l0 x1 x2 x3 f0 g0 g2 g4 g5 g6 g8 n x4 g1 g3 g7 = some q → (Sum.elim (fun e : (Int → Int) × (Int → Int) × (Int → Int) => good 142 [.inr 1000, .inr 1000, .inr 1000, .inr 1000, .inr 1000, .inr 1000, .inr 1000, .inr 1000] [] [.inl f0, .inl f1, .inl f2, .inl f3, .inl f4] [g0, e.1, g2, e.2.1, g4, g5, g6, e.2.2, g8]) (fun w : Int × Int × Int × Int × Int × (Int → Int) × (Int → Int) × (Int → Int) => w = o) q) → good 3 [.inr 0, .inl x1, .inl x2, .inl x3, .inl x4, .inr 1000, .inr 1000, .inr 1000] [] [.inl f0, .inl f1, .inl f2, .inl f3, .inl f4] [g0, g1, g2, g3, g4, g5, g6, g7, g8] := by
    intro n
    induction n with
    | zero => intro x1 x2 x3 x4 f1 f2 f3 f4 g1 g3 g7 q h; exact absurd (show none = some q from h) (fun h => by cases h)
    | succ n ih =>
      intro x1 x2 x3 x4 f1 f2 f3 f4 g1 g3 g7 q h hK
      replace h : zf_M_laysTwo_l0_b x1 x2 x3 f0 g0 g2 g4 g5 g6 g8 (zf_M_laysTwo_l0 x1 x2 x3 f0 g0 g2 g4 g5 g6 g8 n) x4 g1 g3 g7 = some q := h
      unfold zf_M_laysTwo_l0_b at h
      refine zv_ild hB zd308_3 rfl rfl ?_
      refine zv_ild hB zd308_5 rfl rfl ?_
      refine zv_cgt hB zd308_6 rfl (fun hc1 => ?_) (fun hc1 => ?_)
      · rw [if_pos hc1] at h
        have hq := Option.some.inj h
        subst hq
        refine zv_wk hB (L' := [.inr 1000, .inr 1000, .inr 1000, .inr 1000, .inr 1000, .inr 1000, .inr 1000, .inr 1000]) (F' := [.inl f0, .inl f1, .inl f2, .inl f3, .inl f4]) ⟨fun (h : zv_is (.inr 1000)) => (Nat.lt_irrefl 1000 h).elim, fun (h : zv_is (.inr 1000)) => (Nat.lt_irrefl 1000 h).elim, fun (h : zv_is (.inr 1000)) => (Nat.lt_irrefl 1000 h).elim, fun (h : zv_is (.inr 1000)) => (Nat.lt_irrefl 1000 h).elim, fun (h : zv_is (.inr 1000)) => (Nat.lt_irrefl 1000 h).elim, fun (h : zv_is (.inr 1000)) => (Nat.lt_irrefl 1000 h).elim, fun (h : zv_is (.inr 1000)) => (Nat.lt_irrefl 1000 h).elim, fun (h : zv_is (.inr 1000)) => (Nat.lt_irrefl 1000 h).elim, trivial⟩ ⟨fun _ => rfl, fun _ => rfl, fun _ => rfl, fun _ => rfl, fun _ => rfl, trivial⟩ ?_
        exact hK
      · rw [if_neg (Int.not_lt.mpr hc1)] at h
        refine zv_con hB zd308_9 rfl ?_
        refine zv_ist hB zd308_10 rfl rfl rfl ?_
        obtain ⟨q17, hq17, h⟩ := zi_bind h
        refine l1 _ _ _ _ _ _ _ _ _ _ _ _ _ q17 hq17 ?_
        rcases q17 with e18 | w19
        · replace h := zi_sl h
          show good 136 [.inr 0, .inl x1, .inl x2, .inl x3, .inl x4, .inr 1000, .inr 1000, .inr 1000] [] [.inl f0, .inl f1, .inl f2, .inl f3, .inl f4] [g0, e18.1, g2, e18.2.1, g4, g5, g6, e18.2.2, g8]
          refine zv_iincw hB zd308_136 rfl rfl ?_
          refine zv_goto hB zd308_139 rfl ?_
          exact ih _ _ _ _ _ _ _ _ _ _ _ q h hK
        · exact zi_rk (Option.some.inj h) hK
  unfold zf_M_laysTwo at h
  refine zv_con hB zd308_0 rfl ?_
  refine zv_ist hB zd308_1 rfl rfl rfl ?_
  obtain ⟨q20, hq20, h⟩ := zi_bind h
  refine l0 _ _ _ _ _ _ _ _ _ _ _ _ q20 hq20 ?_
  rcases q20 with e21 | w22
  · replace h := zi_sl h
    show good 142 [.inr 1000, .inr 1000, .inr 1000, .inr 1000, .inr 1000, .inr 1000, .inr 1000, .inr 1000] [] [.inl f0, .inl f1, .inl f2, .inl f3, .inl f4] [g0, e21.1, g2, e21.2.1, g4, g5, g6, e21.2.2, g8]
    refine zv_con hB zd308_142 rfl ?_
    have hw := Option.some.inj h
    subst hw
    exact hret _ _ _ _ _ zd308_143 (by constructor <;> decide) ⟨rfl, rfl, rfl⟩
  · exact Option.some.inj h
/-! M_byTwo (IIIII)I -/
-- names: 0 StarTalesModel('arg', 0), 1 (0, 422)(0, 12, 0), 2 (0, 422)(0, 12, 1), 3 (0, 14)(0, 12, 21), 4 (0, 13)(0, 12, 26), 5 (0, 14)(0, 12, 23), 6 (0, 14)(0, 12, 24), 7 (0, 220)(0, 12, 20), 8 (0, 220)(0, 12, 25), 9 (0, 14)(0, 12, 22)
-- fields: f0 = 0.clauses_, f1 = 0.twoHours_, f2 = 0.twoFirst_, f3 = 0.twoFor_, f4 = 0.twoSecond_; arrays: g0 = 1, g1 = 2, g2 = 3, g3 = 4, g4 = 5, g5 = 6, g6 = 7, g7 = 8, g8 = 9; out: [('ret', None), ('f', 1), ('f', 2), ('f', 3), ('f', 4), ('g', 0), ('g', 1), ('g', 3), ('g', 7)]
abbrev zy_M_byTwo : zNL := (10, [(0, 12)], [(0, 12, 13, 0), (0, 12, 55, 1), (0, 12, 56, 2), (0, 12, 57, 3), (0, 12, 58, 4)], [(0, 12, 0, 1), (0, 12, 1, 2), (0, 12, 21, 3), (0, 12, 26, 4), (0, 12, 23, 5), (0, 12, 24, 6), (0, 12, 20, 7), (0, 12, 25, 8), (0, 12, 22, 9)], [(1, 0, 422, 0), (2, 0, 422, 1), (3, 0, 14, 2), (4, 0, 13, 3), (5, 0, 14, 4), (6, 0, 14, 5), (7, 0, 220, 6), (8, 0, 220, 7), (9, 0, 14, 8)])
theorem zyw_M_byTwo : zv_wf zy_M_byTwo = true := by decide +kernel
theorem zye_M_byTwo : zv_ek2 zy_M_byTwo = true := by decide +kernel
def zf_M_byTwo (x1 : Int) (x2 : Int) (x3 : Int) (x4 : Int) (x5 : Int) (f0 : Int) (f1 : Int) (f2 : Int) (f3 : Int) (f4 : Int) (g0 : (Int → Int)) (g1 : (Int → Int)) (g2 : (Int → Int)) (g3 : (Int → Int)) (g4 : (Int → Int)) (g5 : (Int → Int)) (g6 : (Int → Int)) (g7 : (Int → Int)) (g8 : (Int → Int)) : Option (Int × Int × Int × Int × Int × (Int → Int) × (Int → Int) × (Int → Int) × (Int → Int)) := (zf_M_isShip x1 g0).bind fun r1 => (if r1 = 0 then (some ((-1), f1, f2, f3, f4, g0, g1, g3, g7)) else ((zf_M_isPlace x2 x3).bind fun r3 => (if r3 = 0 then (some ((-1), f1, f2, f3, f4, g0, g1, g3, g7)) else ((zf_M_in x4 2 12).bind fun r5 => (if r5 = 0 then (some ((-1), f1, f2, f3, f4, g0, g1, g3, g7)) else ((zf_M_in x5 0 3).bind fun r7 => (if r7 = 0 then (some ((-1), f1, f2, f3, f4, g0, g1, g3, g7)) else (if (g0 126) = 0 then (some ((-1), f1, f2, f3, f4, g0, g1, g3, g7)) else ((zf_M_begins g0 g1).bind fun r10 => ((zf_M_laysTwo x1 (zi_w ((zi_w (24 * x3)) + x2)) x4 f0 f1 f2 f3 f4 r10 g0 g2 g3 g4 g5 g6 g7 g8).bind fun r11 => ((zf_M_again r10 r11.2.2.2.2.2.1).bind fun r12 => (if r11.1 = 0 then (some ((-2), r11.2.1, r11.2.2.1, r11.2.2.2.1, r11.2.2.2.2.1, r12, r10, r11.2.2.2.2.2.2.1, r11.2.2.2.2.2.2.2)) else (if x5 = 0 then (some (r11.2.1, r11.2.1, r11.2.2.1, r11.2.2.2.1, r11.2.2.2.2.1, r12, r10, r11.2.2.2.2.2.2.1, r11.2.2.2.2.2.2.2)) else (if x5 = 1 then (some (r11.2.2.1, r11.2.1, r11.2.2.1, r11.2.2.2.1, r11.2.2.2.2.1, r12, r10, r11.2.2.2.2.2.2.1, r11.2.2.2.2.2.2.2)) else (if x5 = 2 then (some (r11.2.2.2.1, r11.2.1, r11.2.2.1, r11.2.2.2.1, r11.2.2.2.2.1, r12, r10, r11.2.2.2.2.2.2.1, r11.2.2.2.2.2.2.2)) else (some (r11.2.2.2.2.1, r11.2.1, r11.2.2.1, r11.2.2.2.1, r11.2.2.2.2.1, r12, r10, r11.2.2.2.2.2.2.1, r11.2.2.2.2.2.2.2)))))))))))))))))
theorem zd307_0 : decode zxm307.2.1 0 = .ok (.aload_n 0, 1) := by decide +kernel
theorem zd307_1 : decode zxm307.2.1 1 = .ok (.iload_n 1, 1) := by decide +kernel
theorem zd307_2 : decode zxm307.2.1 2 = .ok (.invokevirtual 162, 3) := by decide +kernel
theorem zd307_5 : decode zxm307.2.1 5 = .ok (.ifCond .eq 42, 3) := by decide +kernel
theorem zd307_8 : decode zxm307.2.1 8 = .ok (.iload_n 2, 1) := by decide +kernel
theorem zd307_9 : decode zxm307.2.1 9 = .ok (.iload_n 3, 1) := by decide +kernel
theorem zd307_10 : decode zxm307.2.1 10 = .ok (.invokestatic 154, 3) := by decide +kernel
theorem zd307_13 : decode zxm307.2.1 13 = .ok (.ifCond .eq 34, 3) := by decide +kernel
theorem zd307_16 : decode zxm307.2.1 16 = .ok (.iload 4, 2) := by decide +kernel
theorem zd307_18 : decode zxm307.2.1 18 = .ok (.iconst 2, 1) := by decide +kernel
theorem zd307_19 : decode zxm307.2.1 19 = .ok (.bipush 12, 2) := by decide +kernel
theorem zd307_21 : decode zxm307.2.1 21 = .ok (.invokestatic 150, 3) := by decide +kernel
theorem zd307_24 : decode zxm307.2.1 24 = .ok (.ifCond .eq 23, 3) := by decide +kernel
theorem zd307_27 : decode zxm307.2.1 27 = .ok (.iload 5, 2) := by decide +kernel
theorem zd307_29 : decode zxm307.2.1 29 = .ok (.iconst 0, 1) := by decide +kernel
theorem zd307_30 : decode zxm307.2.1 30 = .ok (.iconst 3, 1) := by decide +kernel
theorem zd307_31 : decode zxm307.2.1 31 = .ok (.invokestatic 150, 3) := by decide +kernel
theorem zd307_34 : decode zxm307.2.1 34 = .ok (.ifCond .eq 13, 3) := by decide +kernel
theorem zd307_37 : decode zxm307.2.1 37 = .ok (.aload_n 0, 1) := by decide +kernel
theorem zd307_38 : decode zxm307.2.1 38 = .ok (.getfield 7, 3) := by decide +kernel
theorem zd307_41 : decode zxm307.2.1 41 = .ok (.bipush 126, 2) := by decide +kernel
theorem zd307_43 : decode zxm307.2.1 43 = .ok (.iaload, 1) := by decide +kernel
theorem zd307_44 : decode zxm307.2.1 44 = .ok (.ifCond .ne 5, 3) := by decide +kernel
theorem zd307_47 : decode zxm307.2.1 47 = .ok (.iconst (-1), 1) := by decide +kernel
theorem zd307_48 : decode zxm307.2.1 48 = .ok (.ireturn, 1) := by decide +kernel
theorem zd307_49 : decode zxm307.2.1 49 = .ok (.aload_n 0, 1) := by decide +kernel
theorem zd307_50 : decode zxm307.2.1 50 = .ok (.invokevirtual 434, 3) := by decide +kernel
theorem zd307_53 : decode zxm307.2.1 53 = .ok (.aload_n 0, 1) := by decide +kernel
theorem zd307_54 : decode zxm307.2.1 54 = .ok (.iload_n 1, 1) := by decide +kernel
theorem zd307_55 : decode zxm307.2.1 55 = .ok (.bipush 24, 2) := by decide +kernel
theorem zd307_57 : decode zxm307.2.1 57 = .ok (.iload_n 3, 1) := by decide +kernel
theorem zd307_58 : decode zxm307.2.1 58 = .ok (.imul, 1) := by decide +kernel
theorem zd307_59 : decode zxm307.2.1 59 = .ok (.iload_n 2, 1) := by decide +kernel
theorem zd307_60 : decode zxm307.2.1 60 = .ok (.iadd, 1) := by decide +kernel
theorem zd307_61 : decode zxm307.2.1 61 = .ok (.iload 4, 2) := by decide +kernel
theorem zd307_63 : decode zxm307.2.1 63 = .ok (.invokevirtual 466, 3) := by decide +kernel
theorem zd307_66 : decode zxm307.2.1 66 = .ok (.istore 6, 2) := by decide +kernel
theorem zd307_68 : decode zxm307.2.1 68 = .ok (.aload_n 0, 1) := by decide +kernel
theorem zd307_69 : decode zxm307.2.1 69 = .ok (.invokevirtual 437, 3) := by decide +kernel
theorem zd307_72 : decode zxm307.2.1 72 = .ok (.iload 6, 2) := by decide +kernel
theorem zd307_74 : decode zxm307.2.1 74 = .ok (.ifCond .ne 6, 3) := by decide +kernel
theorem zd307_77 : decode zxm307.2.1 77 = .ok (.bipush (-2), 2) := by decide +kernel
theorem zd307_79 : decode zxm307.2.1 79 = .ok (.ireturn, 1) := by decide +kernel
theorem zd307_80 : decode zxm307.2.1 80 = .ok (.iload 5, 2) := by decide +kernel
theorem zd307_82 : decode zxm307.2.1 82 = .ok (.ifCond .ne 10, 3) := by decide +kernel
theorem zd307_85 : decode zxm307.2.1 85 = .ok (.aload_n 0, 1) := by decide +kernel
theorem zd307_86 : decode zxm307.2.1 86 = .ok (.getfield 454, 3) := by decide +kernel
theorem zd307_89 : decode zxm307.2.1 89 = .ok (.goto 33, 3) := by decide +kernel
theorem zd307_92 : decode zxm307.2.1 92 = .ok (.iload 5, 2) := by decide +kernel
theorem zd307_94 : decode zxm307.2.1 94 = .ok (.iconst 1, 1) := by decide +kernel
theorem zd307_95 : decode zxm307.2.1 95 = .ok (.if_icmp .ne 10, 3) := by decide +kernel
theorem zd307_98 : decode zxm307.2.1 98 = .ok (.aload_n 0, 1) := by decide +kernel
theorem zd307_99 : decode zxm307.2.1 99 = .ok (.getfield 457, 3) := by decide +kernel
theorem zd307_102 : decode zxm307.2.1 102 = .ok (.goto 20, 3) := by decide +kernel
theorem zd307_105 : decode zxm307.2.1 105 = .ok (.iload 5, 2) := by decide +kernel
theorem zd307_107 : decode zxm307.2.1 107 = .ok (.iconst 2, 1) := by decide +kernel
theorem zd307_108 : decode zxm307.2.1 108 = .ok (.if_icmp .ne 10, 3) := by decide +kernel
theorem zd307_111 : decode zxm307.2.1 111 = .ok (.aload_n 0, 1) := by decide +kernel
theorem zd307_112 : decode zxm307.2.1 112 = .ok (.getfield 460, 3) := by decide +kernel
theorem zd307_115 : decode zxm307.2.1 115 = .ok (.goto 7, 3) := by decide +kernel
theorem zd307_118 : decode zxm307.2.1 118 = .ok (.aload_n 0, 1) := by decide +kernel
theorem zd307_119 : decode zxm307.2.1 119 = .ok (.getfield 463, 3) := by decide +kernel
theorem zd307_122 : decode zxm307.2.1 122 = .ok (.ireturn, 1) := by decide +kernel
theorem zt_M_byTwo {x1 : Int} {x2 : Int} {x3 : Int} {x4 : Int} {x5 : Int} {f0 : Int} {f1 : Int} {f2 : Int} {f3 : Int} {f4 : Int} {g0 : (Int → Int)} {g1 : (Int → Int)} {g2 : (Int → Int)} {g3 : (Int → Int)} {g4 : (Int → Int)} {g5 : (Int → Int)} {g6 : (Int → Int)} {g7 : (Int → Int)} {g8 : (Int → Int)} {o : Int × Int × Int × Int × Int × (Int → Int) × (Int → Int) × (Int → Int) × (Int → Int)} (h : zf_M_byTwo x1 x2 x3 x4 x5 f0 f1 f2 f3 f4 g0 g1 g2 g3 g4 g5 g6 g7 g8 = some o) : zv_Fn z_TB z_cl z_KX zy_M_byTwo zxm307 (8, 480) [.inr 0, .inl x1, .inl x2, .inl x3, .inl x4, .inl x5] [.inl f0, .inl f1, .inl f2, .inl f3, .inl f4] [g0, g1, g2, g3, g4, g5, g6, g7, g8] (some o.1) [.inl f0, .inl o.2.1, .inl o.2.2.1, .inl o.2.2.2.1, .inl o.2.2.2.2.1] [o.2.2.2.2.2.1, o.2.2.2.2.2.2.1, g2, o.2.2.2.2.2.2.2.1, g4, g5, g6, o.2.2.2.2.2.2.2.2, g8] := zv_meth (K := (z_KF13, z_KC13, z_KL13, z_KT13, [], [], [], none)) (FT := z_FT) (MT := z_MT) (n := 6) zxp307 (z_ks13 _ (fun _ h => List.mem_cons_of_mem _ h) _ _ _ _ (fun j r h _ => by cases h)) (fun _ _ => zs_KX_p) zyw_M_byTwo (fun va F G h => by obtain ⟨rfl, _⟩ := h; rfl) (fun va F G h => by obtain ⟨rfl, _⟩ := h; rfl) rfl fun good va F G hB hret hvret hP => by
  obtain ⟨rfl, rfl, rfl⟩ := hP
  unfold zf_M_byTwo at h
  refine zv_ald hB zd307_0 rfl rfl rfl ?_
  refine zv_ild hB zd307_1 rfl rfl ?_
  obtain ⟨r1, hr1, h⟩ := zi_bind h
  refine zv_cv hB (zv_emq (va2 := [.inr 0, .inl x1]) (F := [.inl f0, .inl f1, .inl f2, .inl f3, .inl f4]) (F' := [.inl f0, .inl f1, .inl f2, .inl f3, .inl f4]) (G := [g0, g1, g2, g3, g4, g5, g6, g7, g8]) (G' := [g0, g1, g2, g3, g4, g5, g6, g7, g8]) (ρ := [0, 1]) (φ := []) (ψ := [0]) [none, none, none, none, none] [some 0, none, none, none, none, none, none, none, none] zyw_M_isShip zyw_M_byTwo zye_M_byTwo (by decide +kernel) (zt_M_isShip hr1) trivial ⟨rfl, trivial⟩ rfl rfl rfl rfl rfl rfl rfl) zd307_2 zxt210 rfl (by decide) (by decide) rfl ?_
  refine zv_zeq hB zd307_5 rfl (fun hc2 => ?_) (fun hc2 => ?_)
  · rw [if_pos hc2] at h
    refine zv_con hB zd307_47 rfl ?_
    have hw := Option.some.inj h
    subst hw
    exact hret _ _ _ _ _ zd307_48 (by trivial) ⟨rfl, rfl, rfl⟩
  · rw [if_neg hc2] at h
    refine zv_ild hB zd307_8 rfl rfl ?_
    refine zv_ild hB zd307_9 rfl rfl ?_
    obtain ⟨r3, hr3, h⟩ := zi_bind h
    refine zv_cs hB (zv_emq (va2 := [.inl x2, .inl x3]) (F := [.inl f0, .inl f1, .inl f2, .inl f3, .inl f4]) (F' := [.inl f0, .inl f1, .inl f2, .inl f3, .inl f4]) (G := [g0, g1, g2, g3, g4, g5, g6, g7, g8]) (G' := [g0, g1, g2, g3, g4, g5, g6, g7, g8]) (ρ := []) (φ := []) (ψ := []) [none, none, none, none, none] [none, none, none, none, none, none, none, none, none] zyw_M_isPlace zyw_M_byTwo zye_M_byTwo (by decide +kernel) (zt_M_isPlace hr3) trivial trivial rfl rfl rfl rfl rfl rfl rfl) zd307_10 zxt201 rfl (by decide) (by decide) rfl ?_
    refine zv_zeq hB zd307_13 rfl (fun hc4 => ?_) (fun hc4 => ?_)
    · rw [if_pos hc4] at h
      refine zv_con hB zd307_47 rfl ?_
      have hw := Option.some.inj h
      subst hw
      exact hret _ _ _ _ _ zd307_48 (by trivial) ⟨rfl, rfl, rfl⟩
    · rw [if_neg hc4] at h
      refine zv_ild hB zd307_16 rfl rfl ?_
      refine zv_con hB zd307_18 rfl ?_
      refine zv_con hB zd307_19 rfl ?_
      obtain ⟨r5, hr5, h⟩ := zi_bind h
      refine zv_cs hB (zv_emq (va2 := [.inl x4, .inl 2, .inl 12]) (F := [.inl f0, .inl f1, .inl f2, .inl f3, .inl f4]) (F' := [.inl f0, .inl f1, .inl f2, .inl f3, .inl f4]) (G := [g0, g1, g2, g3, g4, g5, g6, g7, g8]) (G' := [g0, g1, g2, g3, g4, g5, g6, g7, g8]) (ρ := []) (φ := []) (ψ := []) [none, none, none, none, none] [none, none, none, none, none, none, none, none, none] zyw_M_in zyw_M_byTwo zye_M_byTwo (by decide +kernel) (zt_M_in hr5) trivial trivial rfl rfl rfl rfl rfl rfl rfl) zd307_21 zxt200 rfl (by decide) (by decide) rfl ?_
      refine zv_zeq hB zd307_24 rfl (fun hc6 => ?_) (fun hc6 => ?_)
      · rw [if_pos hc6] at h
        refine zv_con hB zd307_47 rfl ?_
        have hw := Option.some.inj h
        subst hw
        exact hret _ _ _ _ _ zd307_48 (by trivial) ⟨rfl, rfl, rfl⟩
      · rw [if_neg hc6] at h
        refine zv_ild hB zd307_27 rfl rfl ?_
        refine zv_con hB zd307_29 rfl ?_
        refine zv_con hB zd307_30 rfl ?_
        obtain ⟨r7, hr7, h⟩ := zi_bind h
        refine zv_cs hB (zv_emq (va2 := [.inl x5, .inl 0, .inl 3]) (F := [.inl f0, .inl f1, .inl f2, .inl f3, .inl f4]) (F' := [.inl f0, .inl f1, .inl f2, .inl f3, .inl f4]) (G := [g0, g1, g2, g3, g4, g5, g6, g7, g8]) (G' := [g0, g1, g2, g3, g4, g5, g6, g7, g8]) (ρ := []) (φ := []) (ψ := []) [none, none, none, none, none] [none, none, none, none, none, none, none, none, none] zyw_M_in zyw_M_byTwo zye_M_byTwo (by decide +kernel) (zt_M_in hr7) trivial trivial rfl rfl rfl rfl rfl rfl rfl) zd307_31 zxt200 rfl (by decide) (by decide) rfl ?_
        refine zv_zeq hB zd307_34 rfl (fun hc8 => ?_) (fun hc8 => ?_)
        · rw [if_pos hc8] at h
          refine zv_con hB zd307_47 rfl ?_
          have hw := Option.some.inj h
          subst hw
          exact hret _ _ _ _ _ zd307_48 (by trivial) ⟨rfl, rfl, rfl⟩
        · rw [if_neg hc8] at h
          refine zv_ald hB zd307_37 rfl rfl rfl ?_
          refine zv_getr hB zd307_38 rfl ?_
          refine zv_con hB zd307_41 rfl ?_
          refine zv_iald hB zd307_43 rfl rfl (by decide) (by decide) (fun _ _ => ?_)
          refine zv_zne hB zd307_44 rfl (fun hc9 => ?_) (fun hc9 => ?_)
          · rw [if_neg hc9] at h
            refine zv_ald hB zd307_49 rfl rfl rfl ?_
            obtain ⟨r10, hr10, h⟩ := zi_bind h
            refine zv_cv hB (zv_emq (va2 := [.inr 0]) (F := [.inl f0, .inl f1, .inl f2, .inl f3, .inl f4]) (F' := [.inl f0, .inl f1, .inl f2, .inl f3, .inl f4]) (G := [g0, g1, g2, g3, g4, g5, g6, g7, g8]) (G' := [g0, r10, g2, g3, g4, g5, g6, g7, g8]) (ρ := [0, 1, 2]) (φ := []) (ψ := [0, 1]) [none, none, none, none, none] [some 0, some 1, none, none, none, none, none, none, none] zyw_M_begins zyw_M_byTwo zye_M_byTwo (by decide +kernel) (zt_M_begins hr10) trivial ⟨rfl, rfl, trivial⟩ rfl rfl rfl rfl rfl rfl rfl) zd307_50 zxt299 rfl (by decide) (by decide) rfl ?_
            refine zv_ald hB zd307_53 rfl rfl rfl ?_
            refine zv_ild hB zd307_54 rfl rfl ?_
            refine zv_con hB zd307_55 rfl ?_
            refine zv_ild hB zd307_57 rfl rfl ?_
            refine zv_mulw hB zd307_58 ?_
            refine zv_ild hB zd307_59 rfl rfl ?_
            refine zv_addw hB zd307_60 ?_
            refine zv_ild hB zd307_61 rfl rfl ?_
            obtain ⟨r11, hr11, h⟩ := zi_bind h
            refine zv_cv hB (zv_emq (va2 := [.inr 0, .inl x1, .inl (zi_w ((zi_w (24 * x3)) + x2)), .inl x4]) (F := [.inl f0, .inl f1, .inl f2, .inl f3, .inl f4]) (F' := [.inl f0, .inl r11.2.1, .inl r11.2.2.1, .inl r11.2.2.2.1, .inl r11.2.2.2.2.1]) (G := [g0, r10, g2, g3, g4, g5, g6, g7, g8]) (G' := [r11.2.2.2.2.2.1, r10, g2, r11.2.2.2.2.2.2.1, g4, g5, g6, r11.2.2.2.2.2.2.2, g8]) (ρ := [0, 2, 1, 3, 4, 5, 6, 7, 8, 9]) (φ := [0, 1, 2, 3, 4]) (ψ := [1, 0, 2, 3, 4, 5, 6, 7, 8]) [some 0, some 1, some 2, some 3, some 4] [some 1, some 0, some 2, some 3, some 4, some 5, some 6, some 7, some 8] zyw_M_laysTwo zyw_M_byTwo zye_M_byTwo (by decide +kernel) (zt_M_laysTwo hr11) ⟨⟨_, rfl, fun _ => rfl⟩, ⟨_, rfl, fun _ => rfl⟩, ⟨_, rfl, fun _ => rfl⟩, ⟨_, rfl, fun _ => rfl⟩, ⟨_, rfl, fun _ => rfl⟩, trivial⟩ ⟨rfl, rfl, rfl, rfl, rfl, rfl, rfl, rfl, rfl, trivial⟩ rfl rfl rfl rfl rfl rfl rfl) zd307_63 zxt308 rfl (by decide) (by decide) rfl ?_
            refine zv_ist hB zd307_66 rfl rfl rfl ?_
            refine zv_ald hB zd307_68 rfl rfl rfl ?_
            obtain ⟨r12, hr12, h⟩ := zi_bind h
            refine zv_cv hB (zv_emq (va2 := [.inr 0]) (F := [.inl f0, .inl r11.2.1, .inl r11.2.2.1, .inl r11.2.2.2.1, .inl r11.2.2.2.2.1]) (F' := [.inl f0, .inl r11.2.1, .inl r11.2.2.1, .inl r11.2.2.2.1, .inl r11.2.2.2.2.1]) (G := [r11.2.2.2.2.2.1, r10, g2, r11.2.2.2.2.2.2.1, g4, g5, g6, r11.2.2.2.2.2.2.2, g8]) (G' := [r12, r10, g2, r11.2.2.2.2.2.2.1, g4, g5, g6, r11.2.2.2.2.2.2.2, g8]) (ρ := [0, 2, 1]) (φ := []) (ψ := [1, 0]) [none, none, none, none, none] [some 1, some 0, none, none, none, none, none, none, none] zyw_M_again zyw_M_byTwo zye_M_byTwo (by decide +kernel) (zt_M_again hr12) trivial ⟨rfl, rfl, trivial⟩ rfl rfl rfl rfl rfl rfl rfl) zd307_69 zxt301 rfl (by decide) (by decide) rfl ?_
            refine zv_ild hB zd307_72 rfl rfl ?_
            refine zv_zne hB zd307_74 rfl (fun hc13 => ?_) (fun hc13 => ?_)
            · rw [if_neg hc13] at h
              refine zv_ild hB zd307_80 rfl rfl ?_
              refine zv_zne hB zd307_82 rfl (fun hc14 => ?_) (fun hc14 => ?_)
              · rw [if_neg hc14] at h
                refine zv_ild hB zd307_92 rfl rfl ?_
                refine zv_con hB zd307_94 rfl ?_
                refine zv_cne hB zd307_95 rfl (fun hc15 => ?_) (fun hc15 => ?_)
                · rw [if_neg hc15] at h
                  refine zv_ild hB zd307_105 rfl rfl ?_
                  refine zv_con hB zd307_107 rfl ?_
                  refine zv_cne hB zd307_108 rfl (fun hc16 => ?_) (fun hc16 => ?_)
                  · rw [if_neg hc16] at h
                    refine zv_ald hB zd307_118 rfl rfl rfl ?_
                    refine zv_getf hB zd307_119 rfl rfl (fun _ _ => ?_)
                    have hw := Option.some.inj h
                    subst hw
                    exact hret _ _ _ _ _ zd307_122 (by trivial) ⟨rfl, rfl, rfl⟩
                  · rw [if_pos hc16] at h
                    refine zv_ald hB zd307_111 rfl rfl rfl ?_
                    refine zv_getf hB zd307_112 rfl rfl (fun _ _ => ?_)
                    refine zv_goto hB zd307_115 rfl ?_
                    have hw := Option.some.inj h
                    subst hw
                    exact hret _ _ _ _ _ zd307_122 (by trivial) ⟨rfl, rfl, rfl⟩
                · rw [if_pos hc15] at h
                  refine zv_ald hB zd307_98 rfl rfl rfl ?_
                  refine zv_getf hB zd307_99 rfl rfl (fun _ _ => ?_)
                  refine zv_goto hB zd307_102 rfl ?_
                  have hw := Option.some.inj h
                  subst hw
                  exact hret _ _ _ _ _ zd307_122 (by trivial) ⟨rfl, rfl, rfl⟩
              · rw [if_pos hc14] at h
                refine zv_ald hB zd307_85 rfl rfl rfl ?_
                refine zv_getf hB zd307_86 rfl rfl (fun _ _ => ?_)
                refine zv_goto hB zd307_89 rfl ?_
                have hw := Option.some.inj h
                subst hw
                exact hret _ _ _ _ _ zd307_122 (by trivial) ⟨rfl, rfl, rfl⟩
            · rw [if_pos hc13] at h
              refine zv_con hB zd307_77 rfl ?_
              have hw := Option.some.inj h
              subst hw
              exact hret _ _ _ _ _ zd307_79 (by trivial) ⟨rfl, rfl, rfl⟩
          · rw [if_pos hc9] at h
            refine zv_con hB zd307_47 rfl ?_
            have hw := Option.some.inj h
            subst hw
            exact hret _ _ _ _ _ zd307_48 (by trivial) ⟨rfl, rfl, rfl⟩
/-! M_looksBoth (II)V -/
-- names: 0 StarTalesModel('arg', 0), 1 (0, 422)(0, 12, 0), 2 (0, 14)(0, 12, 21), 3 (0, 13)(0, 12, 26), 4 (0, 14)(0, 12, 23), 5 (0, 14)(0, 12, 24), 6 (0, 220)(0, 12, 20), 7 (0, 220)(0, 12, 25), 8 (0, 24)(0, 12, 28), 9 (0, 24)(0, 12, 59)
-- fields: f0 = 0.clauses_, f1 = 0.seen0_; arrays: g0 = 1, g1 = 2, g2 = 3, g3 = 4, g4 = 5, g5 = 6, g6 = 7, g7 = 8, g8 = 9; out: [('f', 1), ('g', 2), ('g', 6), ('g', 7), ('g', 8)]
abbrev zy_M_looksBoth : zNL := (10, [(0, 12)], [(0, 12, 13, 0), (0, 12, 27, 1)], [(0, 12, 0, 1), (0, 12, 21, 2), (0, 12, 26, 3), (0, 12, 23, 4), (0, 12, 24, 5), (0, 12, 20, 6), (0, 12, 25, 7), (0, 12, 28, 8), (0, 12, 59, 9)], [(1, 0, 422, 0), (2, 0, 14, 1), (3, 0, 13, 2), (4, 0, 14, 3), (5, 0, 14, 4), (6, 0, 220, 5), (7, 0, 220, 6), (8, 0, 24, 7), (9, 0, 24, 8)])
theorem zyw_M_looksBoth : zv_wf zy_M_looksBoth = true := by decide +kernel
theorem zye_M_looksBoth : zv_ek2 zy_M_looksBoth = true := by decide +kernel
def zf_M_looksBoth_l0_b (g7 : (Int → Int)) (rec : Int → (Int → Int) → Option ((Int → Int))) (x4 : Int) (g8 : (Int → Int)) : Option ((Int → Int)) := if x4 < 24 then (cond (zi_ix x4 24) (rec (zi_w (x4 + 1)) (zv_up g8 x4 (g7 x4))) none) else (some g8)
def zf_M_looksBoth_l0 (g7 : (Int → Int)) : Nat → Int → (Int → Int) → Option ((Int → Int))
  | 0, _, _ => none
  | n + 1, x4, g8 => zf_M_looksBoth_l0_b g7 (zf_M_looksBoth_l0 g7 n) x4 g8
def zf_M_looksBoth_l1_b (g8 : (Int → Int)) (rec : Int → (Int → Int) → Option ((Int → Int))) (x4 : Int) (g7 : (Int → Int)) : Option ((Int → Int)) := if x4 < 24 then (cond (zi_ix x4 24) (rec (zi_w (x4 + 1)) (zv_up g7 x4 (zi_and (g7 x4) (g8 x4)))) none) else (some g7)
def zf_M_looksBoth_l1 (g8 : (Int → Int)) : Nat → Int → (Int → Int) → Option ((Int → Int))
  | 0, _, _ => none
  | n + 1, x4, g7 => zf_M_looksBoth_l1_b g8 (zf_M_looksBoth_l1 g8 n) x4 g7
def zf_M_looksBoth (x1 : Int) (x2 : Int) (f0 : Int) (f1 : Int) (g0 : (Int → Int)) (g1 : (Int → Int)) (g2 : (Int → Int)) (g3 : (Int → Int)) (g4 : (Int → Int)) (g5 : (Int → Int)) (g6 : (Int → Int)) (g7 : (Int → Int)) (g8 : (Int → Int)) : Option (Int × (Int → Int) × (Int → Int) × (Int → Int) × (Int → Int)) := (zf_M_looks x1 f0 f1 g0 g1 g2 g3 g4 g5 g6 g7).bind fun r1 => ((zf_M_looksBoth_l0 r1.2.2.2 zi_fu 0 g8).bind fun q4 => ((zf_M_looks x2 f0 r1.1 g0 g1 r1.2.1 g3 g4 g5 r1.2.2.1 r1.2.2.2).bind fun r5 => ((zf_M_looksBoth_l1 q4 zi_fu 0 r5.2.2.2).bind fun q8 => (some ((zi_and r5.1 r1.1), r5.2.1, r5.2.2.1, q8, q4)))))
theorem zd311_0 : decode zxm311.2.1 0 = .ok (.aload_n 0, 1) := by decide +kernel
theorem zd311_1 : decode zxm311.2.1 1 = .ok (.iload_n 1, 1) := by decide +kernel
theorem zd311_2 : decode zxm311.2.1 2 = .ok (.invokevirtual 309, 3) := by decide +kernel
theorem zd311_5 : decode zxm311.2.1 5 = .ok (.aload_n 0, 1) := by decide +kernel
theorem zd311_6 : decode zxm311.2.1 6 = .ok (.getfield 303, 3) := by decide +kernel
theorem zd311_9 : decode zxm311.2.1 9 = .ok (.istore_n 3, 1) := by decide +kernel
theorem zd311_10 : decode zxm311.2.1 10 = .ok (.iconst 0, 1) := by decide +kernel
theorem zd311_11 : decode zxm311.2.1 11 = .ok (.istore 4, 2) := by decide +kernel
theorem zd311_13 : decode zxm311.2.1 13 = .ok (.iload 4, 2) := by decide +kernel
theorem zd311_15 : decode zxm311.2.1 15 = .ok (.bipush 24, 2) := by decide +kernel
theorem zd311_17 : decode zxm311.2.1 17 = .ok (.if_icmp .ge 23, 3) := by decide +kernel
theorem zd311_20 : decode zxm311.2.1 20 = .ok (.aload_n 0, 1) := by decide +kernel
theorem zd311_21 : decode zxm311.2.1 21 = .ok (.getfield 122, 3) := by decide +kernel
theorem zd311_24 : decode zxm311.2.1 24 = .ok (.iload 4, 2) := by decide +kernel
theorem zd311_26 : decode zxm311.2.1 26 = .ok (.aload_n 0, 1) := by decide +kernel
theorem zd311_27 : decode zxm311.2.1 27 = .ok (.getfield 62, 3) := by decide +kernel
theorem zd311_30 : decode zxm311.2.1 30 = .ok (.iload 4, 2) := by decide +kernel
theorem zd311_32 : decode zxm311.2.1 32 = .ok (.iaload, 1) := by decide +kernel
theorem zd311_33 : decode zxm311.2.1 33 = .ok (.iastore, 1) := by decide +kernel
theorem zd311_34 : decode zxm311.2.1 34 = .ok (.iinc 4 1, 3) := by decide +kernel
theorem zd311_37 : decode zxm311.2.1 37 = .ok (.goto (-24), 3) := by decide +kernel
theorem zd311_40 : decode zxm311.2.1 40 = .ok (.aload_n 0, 1) := by decide +kernel
theorem zd311_41 : decode zxm311.2.1 41 = .ok (.iload_n 2, 1) := by decide +kernel
theorem zd311_42 : decode zxm311.2.1 42 = .ok (.invokevirtual 309, 3) := by decide +kernel
theorem zd311_45 : decode zxm311.2.1 45 = .ok (.aload_n 0, 1) := by decide +kernel
theorem zd311_46 : decode zxm311.2.1 46 = .ok (.aload_n 0, 1) := by decide +kernel
theorem zd311_47 : decode zxm311.2.1 47 = .ok (.getfield 303, 3) := by decide +kernel
theorem zd311_50 : decode zxm311.2.1 50 = .ok (.iload_n 3, 1) := by decide +kernel
theorem zd311_51 : decode zxm311.2.1 51 = .ok (.iand, 1) := by decide +kernel
theorem zd311_52 : decode zxm311.2.1 52 = .ok (.putfield 303, 3) := by decide +kernel
theorem zd311_55 : decode zxm311.2.1 55 = .ok (.iconst 0, 1) := by decide +kernel
theorem zd311_56 : decode zxm311.2.1 56 = .ok (.istore 4, 2) := by decide +kernel
theorem zd311_58 : decode zxm311.2.1 58 = .ok (.iload 4, 2) := by decide +kernel
theorem zd311_60 : decode zxm311.2.1 60 = .ok (.bipush 24, 2) := by decide +kernel
theorem zd311_62 : decode zxm311.2.1 62 = .ok (.if_icmp .ge 31, 3) := by decide +kernel
theorem zd311_65 : decode zxm311.2.1 65 = .ok (.aload_n 0, 1) := by decide +kernel
theorem zd311_66 : decode zxm311.2.1 66 = .ok (.getfield 62, 3) := by decide +kernel
theorem zd311_69 : decode zxm311.2.1 69 = .ok (.iload 4, 2) := by decide +kernel
theorem zd311_71 : decode zxm311.2.1 71 = .ok (.aload_n 0, 1) := by decide +kernel
theorem zd311_72 : decode zxm311.2.1 72 = .ok (.getfield 62, 3) := by decide +kernel
theorem zd311_75 : decode zxm311.2.1 75 = .ok (.iload 4, 2) := by decide +kernel
theorem zd311_77 : decode zxm311.2.1 77 = .ok (.iaload, 1) := by decide +kernel
theorem zd311_78 : decode zxm311.2.1 78 = .ok (.aload_n 0, 1) := by decide +kernel
theorem zd311_79 : decode zxm311.2.1 79 = .ok (.getfield 122, 3) := by decide +kernel
theorem zd311_82 : decode zxm311.2.1 82 = .ok (.iload 4, 2) := by decide +kernel
theorem zd311_84 : decode zxm311.2.1 84 = .ok (.iaload, 1) := by decide +kernel
theorem zd311_85 : decode zxm311.2.1 85 = .ok (.iand, 1) := by decide +kernel
theorem zd311_86 : decode zxm311.2.1 86 = .ok (.iastore, 1) := by decide +kernel
theorem zd311_87 : decode zxm311.2.1 87 = .ok (.iinc 4 1, 3) := by decide +kernel
theorem zd311_90 : decode zxm311.2.1 90 = .ok (.goto (-32), 3) := by decide +kernel
theorem zd311_93 : decode zxm311.2.1 93 = .ok (.return_, 1) := by decide +kernel
theorem zt_M_looksBoth {x1 : Int} {x2 : Int} {f0 : Int} {f1 : Int} {g0 : (Int → Int)} {g1 : (Int → Int)} {g2 : (Int → Int)} {g3 : (Int → Int)} {g4 : (Int → Int)} {g5 : (Int → Int)} {g6 : (Int → Int)} {g7 : (Int → Int)} {g8 : (Int → Int)} {o : Int × (Int → Int) × (Int → Int) × (Int → Int) × (Int → Int)} (h : zf_M_looksBoth x1 x2 f0 f1 g0 g1 g2 g3 g4 g5 g6 g7 g8 = some o) : zv_Fn z_TB z_cl z_KX zy_M_looksBoth zxm311 (6, 360) [.inr 0, .inl x1, .inl x2] [.inl f0, .inl f1] [g0, g1, g2, g3, g4, g5, g6, g7, g8] none [.inl f0, .inl o.1] [g0, g1, o.2.1, g3, g4, g5, o.2.2.1, o.2.2.2.1, o.2.2.2.2] := zv_meth (K := (z_KF13, z_KC13, z_KL13, z_KT13, [], [], [], none)) (FT := z_FT) (MT := z_MT) (n := 3) zxp311 (z_ks13 _ (fun _ h => List.mem_cons_of_mem _ h) _ _ _ _ (fun j r h _ => by cases h)) (fun _ _ => zs_KX_p) zyw_M_looksBoth (fun va F G h => by obtain ⟨rfl, _⟩ := h; rfl) (fun va F G h => by obtain ⟨rfl, _⟩ := h; rfl) rfl fun good va F G hB hret hvret hP => by
  obtain ⟨rfl, rfl, rfl⟩ := hP
  have l0 : ∀ (n : Nat) (x2 : Int) (x3 : Int) (x4 : Int) (f1 : Int) (g2 : (Int → Int)) (g6 : (Int → Int)) (g7 : (Int → Int)) (g8 : (Int → Int)) (q : (Int → Int)), zf_M_looksBoth_l0 g7 n x4 g8 = some q → (good 40 [.inr 0, .inr 1000, .inl x2, .inl x3, .inr 1000] [] [.inl f0, .inl f1] [g0, g1, g2, g3, g4, g5, g6, g7, q]) → good 13 [.inr 0, .inr 1000, .inl x2, .inl x3, .inl x4] [] [.inl f0, .inl f1] [g0, g1, g2, g3, g4, g5, g6, g7, g8] := by
    intro n
    induction n with
    | zero => intro x2 x3 x4 f1 g2 g6 g7 g8 q h; exact absurd (show none = some q from h) (fun h => by cases h)
    | succ n ih =>
      intro x2 x3 x4 f1 g2 g6 g7 g8 q h hK
      replace h : zf_M_looksBoth_l0_b g7 (zf_M_looksBoth_l0 g7 n) x4 g8 = some q := h
      unfold zf_M_looksBoth_l0_b at h
      refine zv_ild hB zd311_13 rfl rfl ?_
      refine zv_con hB zd311_15 rfl ?_
      refine zv_cge hB zd311_17 rfl (fun hc2 => ?_) (fun hc2 => ?_)
      · rw [if_neg (Int.not_lt.mpr hc2)] at h
        have hq := Option.some.inj h
        subst hq
        refine zv_wk hB (L' := [.inr 0, .inr 1000, .inl x2, .inl x3, .inr 1000]) (F' := [.inl f0, .inl f1]) ⟨fun _ => rfl, fun (h : zv_is (.inr 1000)) => (Nat.lt_irrefl 1000 h).elim, fun _ => rfl, fun _ => rfl, fun (h : zv_is (.inr 1000)) => (Nat.lt_irrefl 1000 h).elim, trivial⟩ ⟨fun _ => rfl, fun _ => rfl, trivial⟩ ?_
        exact hK
      · rw [if_pos hc2] at h
        refine zv_ald hB zd311_20 rfl rfl rfl ?_
        refine zv_getr hB zd311_21 rfl ?_
        refine zv_ild hB zd311_24 rfl rfl ?_
        refine zv_ald hB zd311_26 rfl rfl rfl ?_
        refine zv_getr hB zd311_27 rfl ?_
        refine zv_ild hB zd311_30 rfl rfl ?_
        obtain ⟨c3, h⟩ := zi_if h
        refine zv_iald hB zd311_32 rfl rfl (zi_ix_ok c3).1 (zi_ix_ok c3).2 (fun _ _ => ?_)
        refine zv_iast hB zd311_33 rfl rfl (zi_ix_ok c3).1 (zi_ix_ok c3).2 ?_
        refine zv_iincw hB zd311_34 rfl rfl ?_
        refine zv_goto hB zd311_37 rfl ?_
        exact ih _ _ _ _ _ _ _ _ q h hK
  have l1 : ∀ (n : Nat) (x4 : Int) (f1 : Int) (g2 : (Int → Int)) (g6 : (Int → Int)) (g7 : (Int → Int)) (g8 : (Int → Int)) (q : (Int → Int)), zf_M_looksBoth_l1 g8 n x4 g7 = some q → (good 93 [.inr 1000, .inr 1000, .inr 1000, .inr 1000, .inr 1000] [] [.inl f0, .inl f1] [g0, g1, g2, g3, g4, g5, g6, q, g8]) → good 58 [.inr 0, .inr 1000, .inr 1000, .inr 1000, .inl x4] [] [.inl f0, .inl f1] [g0, g1, g2, g3, g4, g5, g6, g7, g8] := by
    intro n
    induction n with
    | zero => intro x4 f1 g2 g6 g7 g8 q h; exact absurd (show none = some q from h) (fun h => by cases h)
    | succ n ih =>
      intro x4 f1 g2 g6 g7 g8 q h hK
      replace h : zf_M_looksBoth_l1_b g8 (zf_M_looksBoth_l1 g8 n) x4 g7 = some q := h
      unfold zf_M_looksBoth_l1_b at h
      refine zv_ild hB zd311_58 rfl rfl ?_
      refine zv_con hB zd311_60 rfl ?_
      refine zv_cge hB zd311_62 rfl (fun hc6 => ?_) (fun hc6 => ?_)
      · rw [if_neg (Int.not_lt.mpr hc6)] at h
        have hq := Option.some.inj h
        subst hq
        refine zv_wk hB (L' := [.inr 1000, .inr 1000, .inr 1000, .inr 1000, .inr 1000]) (F' := [.inl f0, .inl f1]) ⟨fun (h : zv_is (.inr 1000)) => (Nat.lt_irrefl 1000 h).elim, fun (h : zv_is (.inr 1000)) => (Nat.lt_irrefl 1000 h).elim, fun (h : zv_is (.inr 1000)) => (Nat.lt_irrefl 1000 h).elim, fun (h : zv_is (.inr 1000)) => (Nat.lt_irrefl 1000 h).elim, fun (h : zv_is (.inr 1000)) => (Nat.lt_irrefl 1000 h).elim, trivial⟩ ⟨fun _ => rfl, fun _ => rfl, trivial⟩ ?_
        exact hK
      · rw [if_pos hc6] at h
        refine zv_ald hB zd311_65 rfl rfl rfl ?_
        refine zv_getr hB zd311_66 rfl ?_
        refine zv_ild hB zd311_69 rfl rfl ?_
        refine zv_ald hB zd311_71 rfl rfl rfl ?_
        refine zv_getr hB zd311_72 rfl ?_
        refine zv_ild hB zd311_75 rfl rfl ?_
        obtain ⟨c7, h⟩ := zi_if h
        refine zv_iald hB zd311_77 rfl rfl (zi_ix_ok c7).1 (zi_ix_ok c7).2 (fun _ _ => ?_)
        refine zv_ald hB zd311_78 rfl rfl rfl ?_
        refine zv_getr hB zd311_79 rfl ?_
        refine zv_ild hB zd311_82 rfl rfl ?_
        refine zv_iald hB zd311_84 rfl rfl (zi_ix_ok c7).1 (zi_ix_ok c7).2 (fun _ _ => ?_)
        refine zv_andw hB zd311_85 ?_
        refine zv_iast hB zd311_86 rfl rfl (zi_ix_ok c7).1 (zi_ix_ok c7).2 ?_
        refine zv_iincw hB zd311_87 rfl rfl ?_
        refine zv_goto hB zd311_90 rfl ?_
        exact ih _ _ _ _ _ _ q h hK
  unfold zf_M_looksBoth at h
  refine zv_ald hB zd311_0 rfl rfl rfl ?_
  refine zv_ild hB zd311_1 rfl rfl ?_
  obtain ⟨r1, hr1, h⟩ := zi_bind h
  refine zv_cv hB (zv_emq (va2 := [.inr 0, .inl x1]) (F := [.inl f0, .inl f1]) (F' := [.inl f0, .inl r1.1]) (G := [g0, g1, g2, g3, g4, g5, g6, g7, g8]) (G' := [g0, g1, r1.2.1, g3, g4, g5, r1.2.2.1, r1.2.2.2, g8]) (ρ := [0, 1, 2, 3, 4, 5, 6, 7, 8]) (φ := [0, 1]) (ψ := [0, 1, 2, 3, 4, 5, 6, 7]) [some 0, some 1] [some 0, some 1, some 2, some 3, some 4, some 5, some 6, some 7, none] zyw_M_looks zyw_M_looksBoth zye_M_looksBoth (by decide +kernel) (zt_M_looks hr1) ⟨⟨_, rfl, fun _ => rfl⟩, ⟨_, rfl, fun _ => rfl⟩, trivial⟩ ⟨rfl, rfl, rfl, rfl, rfl, rfl, rfl, rfl, trivial⟩ rfl rfl rfl rfl rfl rfl rfl) zd311_2 zxt252 rfl (by decide) (by decide) rfl ?_
  refine zv_ald hB zd311_5 rfl rfl rfl ?_
  refine zv_getf hB zd311_6 rfl rfl (fun _ _ => ?_)
  refine zv_ist hB zd311_9 rfl rfl rfl ?_
  refine zv_con hB zd311_10 rfl ?_
  refine zv_ist hB zd311_11 rfl rfl rfl ?_
  obtain ⟨q4, hq4, h⟩ := zi_bind h
  refine zv_wk hB (L' := [.inr 0, .inr 1000, .inl x2, .inl r1.1, .inl 0]) (F' := [.inl f0, .inl r1.1]) ⟨fun _ => rfl, fun (h : zv_is (.inr 1000)) => (Nat.lt_irrefl 1000 h).elim, fun _ => rfl, fun _ => rfl, fun _ => rfl, trivial⟩ ⟨fun _ => rfl, fun _ => rfl, trivial⟩ ?_
  refine l0 _ _ _ _ _ _ _ _ _ q4 hq4 ?_
  show good 40 [.inr 0, .inr 1000, .inl x2, .inl r1.1, .inr 1000] [] [.inl f0, .inl r1.1] [g0, g1, r1.2.1, g3, g4, g5, r1.2.2.1, r1.2.2.2, q4]
  refine zv_ald hB zd311_40 rfl rfl rfl ?_
  refine zv_ild hB zd311_41 rfl rfl ?_
  obtain ⟨r5, hr5, h⟩ := zi_bind h
  refine zv_cv hB (zv_emq (va2 := [.inr 0, .inl x2]) (F := [.inl f0, .inl r1.1]) (F' := [.inl f0, .inl r5.1]) (G := [g0, g1, r1.2.1, g3, g4, g5, r1.2.2.1, r1.2.2.2, q4]) (G' := [g0, g1, r5.2.1, g3, g4, g5, r5.2.2.1, r5.2.2.2, q4]) (ρ := [0, 1, 2, 3, 4, 5, 6, 7, 8]) (φ := [0, 1]) (ψ := [0, 1, 2, 3, 4, 5, 6, 7]) [some 0, some 1] [some 0, some 1, some 2, some 3, some 4, some 5, some 6, some 7, none] zyw_M_looks zyw_M_looksBoth zye_M_looksBoth (by decide +kernel) (zt_M_looks hr5) ⟨⟨_, rfl, fun _ => rfl⟩, ⟨_, rfl, fun _ => rfl⟩, trivial⟩ ⟨rfl, rfl, rfl, rfl, rfl, rfl, rfl, rfl, trivial⟩ rfl rfl rfl rfl rfl rfl rfl) zd311_42 zxt252 rfl (by decide) (by decide) rfl ?_
  refine zv_ald hB zd311_45 rfl rfl rfl ?_
  refine zv_ald hB zd311_46 rfl rfl rfl ?_
  refine zv_getf hB zd311_47 rfl rfl (fun _ _ => ?_)
  refine zv_ild hB zd311_50 rfl rfl ?_
  refine zv_andw hB zd311_51 ?_
  refine zv_putf hB zd311_52 rfl rfl (fun h => by cases h) rfl ?_
  refine zv_con hB zd311_55 rfl ?_
  refine zv_ist hB zd311_56 rfl rfl rfl ?_
  obtain ⟨q8, hq8, h⟩ := zi_bind h
  refine zv_wk hB (L' := [.inr 0, .inr 1000, .inr 1000, .inr 1000, .inl 0]) (F' := [.inl f0, .inl (zi_and r5.1 r1.1)]) ⟨fun _ => rfl, fun (h : zv_is (.inr 1000)) => (Nat.lt_irrefl 1000 h).elim, fun (h : zv_is (.inr 1000)) => (Nat.lt_irrefl 1000 h).elim, fun (h : zv_is (.inr 1000)) => (Nat.lt_irrefl 1000 h).elim, fun _ => rfl, trivial⟩ ⟨fun _ => rfl, fun _ => rfl, trivial⟩ ?_
  refine l1 _ _ _ _ _ _ _ q8 hq8 ?_
  show good 93 [.inr 1000, .inr 1000, .inr 1000, .inr 1000, .inr 1000] [] [.inl f0, .inl (zi_and r5.1 r1.1)] [g0, g1, r5.2.1, g3, g4, g5, r5.2.2.1, q8, q4]
  have hw := Option.some.inj h
  subst hw
  exact hvret _ _ _ _ zd311_93 trivial ⟨rfl, rfl, rfl⟩
end
section
/-! Methods as functions, and that they do what these do. -/
/-! M_both (III)I -/
-- names: 0 StarTalesModel('arg', 0), 1 (0, 422)(0, 12, 0), 2 (0, 14)(0, 12, 21), 3 (0, 13)(0, 12, 26), 4 (0, 14)(0, 12, 23), 5 (0, 14)(0, 12, 24), 6 (0, 220)(0, 12, 20), 7 (0, 220)(0, 12, 25), 8 (0, 24)(0, 12, 28), 9 (0, 24)(0, 12, 59), 10 (0, 8)(0, 12, 38), 11 (0, 8)(0, 12, 39), 12 (0, 12)(0, 12, 34), 13 (0, 12)(0, 12, 35), 14 (0, 8)(0, 12, 40)
-- fields: f0 = 0.clauses_, f1 = 0.seen0_, f2 = 0.taleLines_, f3 = 0.nameMany_, f4 = 0.namesIn_; arrays: g0 = 1, g1 = 2, g2 = 3, g3 = 4, g4 = 5, g5 = 6, g6 = 7, g7 = 8, g8 = 9, g9 = 10, g10 = 11, g11 = 12, g12 = 13, g13 = 14; out: [('ret', None), ('f', 1), ('f', 3), ('g', 2), ('g', 6), ('g', 7), ('g', 8), ('g', 9), ('g', 10), ('g', 13)]
abbrev zy_M_both : zNL := (15, [(0, 12)], [(0, 12, 13, 0), (0, 12, 27, 1), (0, 12, 31, 2), (0, 12, 41, 3), (0, 12, 33, 4)], [(0, 12, 0, 1), (0, 12, 21, 2), (0, 12, 26, 3), (0, 12, 23, 4), (0, 12, 24, 5), (0, 12, 20, 6), (0, 12, 25, 7), (0, 12, 28, 8), (0, 12, 59, 9), (0, 12, 38, 10), (0, 12, 39, 11), (0, 12, 34, 12), (0, 12, 35, 13), (0, 12, 40, 14)], [(1, 0, 422, 0), (2, 0, 14, 1), (3, 0, 13, 2), (4, 0, 14, 3), (5, 0, 14, 4), (6, 0, 220, 5), (7, 0, 220, 6), (8, 0, 24, 7), (9, 0, 24, 8), (10, 0, 8, 9), (11, 0, 8, 10), (12, 0, 12, 11), (13, 0, 12, 12), (14, 0, 8, 13)])
theorem zyw_M_both : zv_wf zy_M_both = true := by decide +kernel
theorem zye_M_both : zv_ek2 zy_M_both = true := by decide +kernel
def zf_M_both (x1 : Int) (x2 : Int) (x3 : Int) (f0 : Int) (f1 : Int) (f2 : Int) (f3 : Int) (f4 : Int) (g0 : (Int → Int)) (g1 : (Int → Int)) (g2 : (Int → Int)) (g3 : (Int → Int)) (g4 : (Int → Int)) (g5 : (Int → Int)) (g6 : (Int → Int)) (g7 : (Int → Int)) (g8 : (Int → Int)) (g9 : (Int → Int)) (g10 : (Int → Int)) (g11 : (Int → Int)) (g12 : (Int → Int)) (g13 : (Int → Int)) : Option (Int × Int × Int × (Int → Int) × (Int → Int) × (Int → Int) × (Int → Int) × (Int → Int) × (Int → Int) × (Int → Int)) := (zf_M_in x1 0 287).bind fun r1 => (if r1 = 0 then (some ((-1), f1, f3, g2, g6, g7, g8, g9, g10, g13)) else ((zf_M_in x2 0 287).bind fun r3 => (if r3 = 0 then (some ((-1), f1, f3, g2, g6, g7, g8, g9, g10, g13)) else ((zf_M_in x3 0 2).bind fun r5 => (if r5 = 0 then (some ((-1), f1, f3, g2, g6, g7, g8, g9, g10, g13)) else (if x3 = 0 then (if f2 = 0 then (some ((-1), f1, f3, g2, g6, g7, g8, g9, g10, g13)) else ((zf_M_looksBoth x1 x2 f0 f1 g0 g1 g2 g3 g4 g5 g6 g7 g8).bind fun r13 => ((zf_M_ways 10000 f3 f4 r13.1 f2 g9 g10 g11 g12 r13.2.2.2.1 g13).bind fun r15 => (some (r15.1, r13.1, r15.2.1, r13.2.1, r13.2.2.1, r13.2.2.2.1, r13.2.2.2.2, r15.2.2.1, r15.2.2.2.1, r15.2.2.2.2))))) else ((zf_M_looksBoth x1 x2 f0 f1 g0 g1 g2 g3 g4 g5 g6 g7 g8).bind fun r8 => (if x3 = 1 then (some (r8.1, r8.1, f3, r8.2.1, r8.2.2.1, r8.2.2.2.1, r8.2.2.2.2, g9, g10, g13)) else ((zf_M_lineMany r8.2.2.2.1).bind fun r11 => (some (r11, r8.1, f3, r8.2.1, r8.2.2.1, r8.2.2.2.1, r8.2.2.2.2, g9, g10, g13)))))))))))
theorem zd310_0 : decode zxm310.2.1 0 = .ok (.iload_n 1, 1) := by decide +kernel
theorem zd310_1 : decode zxm310.2.1 1 = .ok (.iconst 0, 1) := by decide +kernel
theorem zd310_2 : decode zxm310.2.1 2 = .ok (.sipush 287, 3) := by decide +kernel
theorem zd310_5 : decode zxm310.2.1 5 = .ok (.invokestatic 150, 3) := by decide +kernel
theorem zd310_8 : decode zxm310.2.1 8 = .ok (.ifCond .eq 34, 3) := by decide +kernel
theorem zd310_11 : decode zxm310.2.1 11 = .ok (.iload_n 2, 1) := by decide +kernel
theorem zd310_12 : decode zxm310.2.1 12 = .ok (.iconst 0, 1) := by decide +kernel
theorem zd310_13 : decode zxm310.2.1 13 = .ok (.sipush 287, 3) := by decide +kernel
theorem zd310_16 : decode zxm310.2.1 16 = .ok (.invokestatic 150, 3) := by decide +kernel
theorem zd310_19 : decode zxm310.2.1 19 = .ok (.ifCond .eq 23, 3) := by decide +kernel
theorem zd310_22 : decode zxm310.2.1 22 = .ok (.iload_n 3, 1) := by decide +kernel
theorem zd310_23 : decode zxm310.2.1 23 = .ok (.iconst 0, 1) := by decide +kernel
theorem zd310_24 : decode zxm310.2.1 24 = .ok (.iconst 2, 1) := by decide +kernel
theorem zd310_25 : decode zxm310.2.1 25 = .ok (.invokestatic 150, 3) := by decide +kernel
theorem zd310_28 : decode zxm310.2.1 28 = .ok (.ifCond .eq 14, 3) := by decide +kernel
theorem zd310_31 : decode zxm310.2.1 31 = .ok (.iload_n 3, 1) := by decide +kernel
theorem zd310_32 : decode zxm310.2.1 32 = .ok (.ifCond .ne 12, 3) := by decide +kernel
theorem zd310_35 : decode zxm310.2.1 35 = .ok (.aload_n 0, 1) := by decide +kernel
theorem zd310_36 : decode zxm310.2.1 36 = .ok (.getfield 351, 3) := by decide +kernel
theorem zd310_39 : decode zxm310.2.1 39 = .ok (.ifCond .ne 5, 3) := by decide +kernel
theorem zd310_42 : decode zxm310.2.1 42 = .ok (.iconst (-1), 1) := by decide +kernel
theorem zd310_43 : decode zxm310.2.1 43 = .ok (.ireturn, 1) := by decide +kernel
theorem zd310_44 : decode zxm310.2.1 44 = .ok (.aload_n 0, 1) := by decide +kernel
theorem zd310_45 : decode zxm310.2.1 45 = .ok (.iload_n 1, 1) := by decide +kernel
theorem zd310_46 : decode zxm310.2.1 46 = .ok (.iload_n 2, 1) := by decide +kernel
theorem zd310_47 : decode zxm310.2.1 47 = .ok (.invokevirtual 469, 3) := by decide +kernel
theorem zd310_50 : decode zxm310.2.1 50 = .ok (.iload_n 3, 1) := by decide +kernel
theorem zd310_51 : decode zxm310.2.1 51 = .ok (.ifCond .ne 13, 3) := by decide +kernel
theorem zd310_54 : decode zxm310.2.1 54 = .ok (.aload_n 0, 1) := by decide +kernel
theorem zd310_55 : decode zxm310.2.1 55 = .ok (.sipush 10000, 3) := by decide +kernel
theorem zd310_58 : decode zxm310.2.1 58 = .ok (.invokevirtual 366, 3) := by decide +kernel
theorem zd310_61 : decode zxm310.2.1 61 = .ok (.goto 19, 3) := by decide +kernel
theorem zd310_64 : decode zxm310.2.1 64 = .ok (.iload_n 3, 1) := by decide +kernel
theorem zd310_65 : decode zxm310.2.1 65 = .ok (.iconst 1, 1) := by decide +kernel
theorem zd310_66 : decode zxm310.2.1 66 = .ok (.if_icmp .ne 10, 3) := by decide +kernel
theorem zd310_69 : decode zxm310.2.1 69 = .ok (.aload_n 0, 1) := by decide +kernel
theorem zd310_70 : decode zxm310.2.1 70 = .ok (.getfield 303, 3) := by decide +kernel
theorem zd310_73 : decode zxm310.2.1 73 = .ok (.goto 7, 3) := by decide +kernel
theorem zd310_76 : decode zxm310.2.1 76 = .ok (.aload_n 0, 1) := by decide +kernel
theorem zd310_77 : decode zxm310.2.1 77 = .ok (.invokevirtual 333, 3) := by decide +kernel
theorem zd310_80 : decode zxm310.2.1 80 = .ok (.ireturn, 1) := by decide +kernel
theorem zt_M_both {x1 : Int} {x2 : Int} {x3 : Int} {f0 : Int} {f1 : Int} {f2 : Int} {f3 : Int} {f4 : Int} {g0 : (Int → Int)} {g1 : (Int → Int)} {g2 : (Int → Int)} {g3 : (Int → Int)} {g4 : (Int → Int)} {g5 : (Int → Int)} {g6 : (Int → Int)} {g7 : (Int → Int)} {g8 : (Int → Int)} {g9 : (Int → Int)} {g10 : (Int → Int)} {g11 : (Int → Int)} {g12 : (Int → Int)} {g13 : (Int → Int)} {o : Int × Int × Int × (Int → Int) × (Int → Int) × (Int → Int) × (Int → Int) × (Int → Int) × (Int → Int) × (Int → Int)} (h : zf_M_both x1 x2 x3 f0 f1 f2 f3 f4 g0 g1 g2 g3 g4 g5 g6 g7 g8 g9 g10 g11 g12 g13 = some o) : zv_Fn z_TB z_cl z_KX zy_M_both zxm310 (7, 420) [.inr 0, .inl x1, .inl x2, .inl x3] [.inl f0, .inl f1, .inl f2, .inl f3, .inl f4] [g0, g1, g2, g3, g4, g5, g6, g7, g8, g9, g10, g11, g12, g13] (some o.1) [.inl f0, .inl o.2.1, .inl f2, .inl o.2.2.1, .inl f4] [g0, g1, o.2.2.2.1, g3, g4, g5, o.2.2.2.2.1, o.2.2.2.2.2.1, o.2.2.2.2.2.2.1, o.2.2.2.2.2.2.2.1, o.2.2.2.2.2.2.2.2.1, g11, g12, o.2.2.2.2.2.2.2.2.2] := zv_meth (K := (z_KF13, z_KC13, z_KL13, z_KT13, [], [], [], none)) (FT := z_FT) (MT := z_MT) (n := 4) zxp310 (z_ks13 _ (fun _ h => List.mem_cons_of_mem _ h) _ _ _ _ (fun j r h _ => by cases h)) (fun _ _ => zs_KX_p) zyw_M_both (fun va F G h => by obtain ⟨rfl, _⟩ := h; rfl) (fun va F G h => by obtain ⟨rfl, _⟩ := h; rfl) rfl fun good va F G hB hret hvret hP => by
  obtain ⟨rfl, rfl, rfl⟩ := hP
  unfold zf_M_both at h
  refine zv_ild hB zd310_0 rfl rfl ?_
  refine zv_con hB zd310_1 rfl ?_
  refine zv_con hB zd310_2 rfl ?_
  obtain ⟨r1, hr1, h⟩ := zi_bind h
  refine zv_cs hB (zv_emq (va2 := [.inl x1, .inl 0, .inl 287]) (F := [.inl f0, .inl f1, .inl f2, .inl f3, .inl f4]) (F' := [.inl f0, .inl f1, .inl f2, .inl f3, .inl f4]) (G := [g0, g1, g2, g3, g4, g5, g6, g7, g8, g9, g10, g11, g12, g13]) (G' := [g0, g1, g2, g3, g4, g5, g6, g7, g8, g9, g10, g11, g12, g13]) (ρ := []) (φ := []) (ψ := []) [none, none, none, none, none] [none, none, none, none, none, none, none, none, none, none, none, none, none, none] zyw_M_in zyw_M_both zye_M_both (by decide +kernel) (zt_M_in hr1) trivial trivial rfl rfl rfl rfl rfl rfl rfl) zd310_5 zxt200 rfl (by decide) (by decide) rfl ?_
  refine zv_zeq hB zd310_8 rfl (fun hc2 => ?_) (fun hc2 => ?_)
  · rw [if_pos hc2] at h
    refine zv_con hB zd310_42 rfl ?_
    have hw := Option.some.inj h
    subst hw
    exact hret _ _ _ _ _ zd310_43 (by trivial) ⟨rfl, rfl, rfl⟩
  · rw [if_neg hc2] at h
    refine zv_ild hB zd310_11 rfl rfl ?_
    refine zv_con hB zd310_12 rfl ?_
    refine zv_con hB zd310_13 rfl ?_
    obtain ⟨r3, hr3, h⟩ := zi_bind h
    refine zv_cs hB (zv_emq (va2 := [.inl x2, .inl 0, .inl 287]) (F := [.inl f0, .inl f1, .inl f2, .inl f3, .inl f4]) (F' := [.inl f0, .inl f1, .inl f2, .inl f3, .inl f4]) (G := [g0, g1, g2, g3, g4, g5, g6, g7, g8, g9, g10, g11, g12, g13]) (G' := [g0, g1, g2, g3, g4, g5, g6, g7, g8, g9, g10, g11, g12, g13]) (ρ := []) (φ := []) (ψ := []) [none, none, none, none, none] [none, none, none, none, none, none, none, none, none, none, none, none, none, none] zyw_M_in zyw_M_both zye_M_both (by decide +kernel) (zt_M_in hr3) trivial trivial rfl rfl rfl rfl rfl rfl rfl) zd310_16 zxt200 rfl (by decide) (by decide) rfl ?_
    refine zv_zeq hB zd310_19 rfl (fun hc4 => ?_) (fun hc4 => ?_)
    · rw [if_pos hc4] at h
      refine zv_con hB zd310_42 rfl ?_
      have hw := Option.some.inj h
      subst hw
      exact hret _ _ _ _ _ zd310_43 (by trivial) ⟨rfl, rfl, rfl⟩
    · rw [if_neg hc4] at h
      refine zv_ild hB zd310_22 rfl rfl ?_
      refine zv_con hB zd310_23 rfl ?_
      refine zv_con hB zd310_24 rfl ?_
      obtain ⟨r5, hr5, h⟩ := zi_bind h
      refine zv_cs hB (zv_emq (va2 := [.inl x3, .inl 0, .inl 2]) (F := [.inl f0, .inl f1, .inl f2, .inl f3, .inl f4]) (F' := [.inl f0, .inl f1, .inl f2, .inl f3, .inl f4]) (G := [g0, g1, g2, g3, g4, g5, g6, g7, g8, g9, g10, g11, g12, g13]) (G' := [g0, g1, g2, g3, g4, g5, g6, g7, g8, g9, g10, g11, g12, g13]) (ρ := []) (φ := []) (ψ := []) [none, none, none, none, none] [none, none, none, none, none, none, none, none, none, none, none, none, none, none] zyw_M_in zyw_M_both zye_M_both (by decide +kernel) (zt_M_in hr5) trivial trivial rfl rfl rfl rfl rfl rfl rfl) zd310_25 zxt200 rfl (by decide) (by decide) rfl ?_
      refine zv_zeq hB zd310_28 rfl (fun hc6 => ?_) (fun hc6 => ?_)
      · rw [if_pos hc6] at h
        refine zv_con hB zd310_42 rfl ?_
        have hw := Option.some.inj h
        subst hw
        exact hret _ _ _ _ _ zd310_43 (by trivial) ⟨rfl, rfl, rfl⟩
      · rw [if_neg hc6] at h
        refine zv_ild hB zd310_31 rfl rfl ?_
        refine zv_zne hB zd310_32 rfl (fun hc7 => ?_) (fun hc7 => ?_)
        · rw [if_neg hc7] at h
          refine zv_ald hB zd310_44 rfl rfl rfl ?_
          refine zv_ild hB zd310_45 rfl rfl ?_
          refine zv_ild hB zd310_46 rfl rfl ?_
          obtain ⟨r8, hr8, h⟩ := zi_bind h
          refine zv_cv hB (zv_emq (va2 := [.inr 0, .inl x1, .inl x2]) (F := [.inl f0, .inl f1, .inl f2, .inl f3, .inl f4]) (F' := [.inl f0, .inl r8.1, .inl f2, .inl f3, .inl f4]) (G := [g0, g1, g2, g3, g4, g5, g6, g7, g8, g9, g10, g11, g12, g13]) (G' := [g0, g1, r8.2.1, g3, g4, g5, r8.2.2.1, r8.2.2.2.1, r8.2.2.2.2, g9, g10, g11, g12, g13]) (ρ := [0, 1, 2, 3, 4, 5, 6, 7, 8, 9]) (φ := [0, 1]) (ψ := [0, 1, 2, 3, 4, 5, 6, 7, 8]) [some 0, some 1, none, none, none] [some 0, some 1, some 2, some 3, some 4, some 5, some 6, some 7, some 8, none, none, none, none, none] zyw_M_looksBoth zyw_M_both zye_M_both (by decide +kernel) (zt_M_looksBoth hr8) ⟨⟨_, rfl, fun _ => rfl⟩, ⟨_, rfl, fun _ => rfl⟩, trivial⟩ ⟨rfl, rfl, rfl, rfl, rfl, rfl, rfl, rfl, rfl, trivial⟩ rfl rfl rfl rfl rfl rfl rfl) zd310_47 zxt311 rfl (by decide) (by decide) rfl ?_
          refine zv_ild hB zd310_50 rfl rfl ?_
          refine zv_zne hB zd310_51 rfl (fun _ => ?_) (fun hc => absurd hc (by omega))
          refine zv_ild hB zd310_64 rfl rfl ?_
          refine zv_con hB zd310_65 rfl ?_
          refine zv_cne hB zd310_66 rfl (fun hc10 => ?_) (fun hc10 => ?_)
          · rw [if_neg hc10] at h
            refine zv_ald hB zd310_76 rfl rfl rfl ?_
            obtain ⟨r11, hr11, h⟩ := zi_bind h
            refine zv_cv hB (zv_emq (va2 := [.inr 0]) (F := [.inl f0, .inl r8.1, .inl f2, .inl f3, .inl f4]) (F' := [.inl f0, .inl r8.1, .inl f2, .inl f3, .inl f4]) (G := [g0, g1, r8.2.1, g3, g4, g5, r8.2.2.1, r8.2.2.2.1, r8.2.2.2.2, g9, g10, g11, g12, g13]) (G' := [g0, g1, r8.2.1, g3, g4, g5, r8.2.2.1, r8.2.2.2.1, r8.2.2.2.2, g9, g10, g11, g12, g13]) (ρ := [0, 8]) (φ := []) (ψ := [7]) [none, none, none, none, none] [none, none, none, none, none, none, none, some 0, none, none, none, none, none, none] zyw_M_lineMany zyw_M_both zye_M_both (by decide +kernel) (zt_M_lineMany hr11) trivial ⟨rfl, trivial⟩ rfl rfl rfl rfl rfl rfl rfl) zd310_77 zxt260 rfl (by decide) (by decide) rfl ?_
            have hw := Option.some.inj h
            subst hw
            exact hret _ _ _ _ _ zd310_80 (by trivial) ⟨rfl, rfl, rfl⟩
          · rw [if_pos hc10] at h
            refine zv_ald hB zd310_69 rfl rfl rfl ?_
            refine zv_getf hB zd310_70 rfl rfl (fun _ _ => ?_)
            refine zv_goto hB zd310_73 rfl ?_
            have hw := Option.some.inj h
            subst hw
            exact hret _ _ _ _ _ zd310_80 (by trivial) ⟨rfl, rfl, rfl⟩
        · rw [if_pos hc7] at h
          refine zv_ald hB zd310_35 rfl rfl rfl ?_
          refine zv_getf hB zd310_36 rfl rfl (fun _ _ => ?_)
          refine zv_zne hB zd310_39 rfl (fun hc12 => ?_) (fun hc12 => ?_)
          · rw [if_neg hc12] at h
            refine zv_ald hB zd310_44 rfl rfl rfl ?_
            refine zv_ild hB zd310_45 rfl rfl ?_
            refine zv_ild hB zd310_46 rfl rfl ?_
            obtain ⟨r13, hr13, h⟩ := zi_bind h
            refine zv_cv hB (zv_emq (va2 := [.inr 0, .inl x1, .inl x2]) (F := [.inl f0, .inl f1, .inl f2, .inl f3, .inl f4]) (F' := [.inl f0, .inl r13.1, .inl f2, .inl f3, .inl f4]) (G := [g0, g1, g2, g3, g4, g5, g6, g7, g8, g9, g10, g11, g12, g13]) (G' := [g0, g1, r13.2.1, g3, g4, g5, r13.2.2.1, r13.2.2.2.1, r13.2.2.2.2, g9, g10, g11, g12, g13]) (ρ := [0, 1, 2, 3, 4, 5, 6, 7, 8, 9]) (φ := [0, 1]) (ψ := [0, 1, 2, 3, 4, 5, 6, 7, 8]) [some 0, some 1, none, none, none] [some 0, some 1, some 2, some 3, some 4, some 5, some 6, some 7, some 8, none, none, none, none, none] zyw_M_looksBoth zyw_M_both zye_M_both (by decide +kernel) (zt_M_looksBoth hr13) ⟨⟨_, rfl, fun _ => rfl⟩, ⟨_, rfl, fun _ => rfl⟩, trivial⟩ ⟨rfl, rfl, rfl, rfl, rfl, rfl, rfl, rfl, rfl, trivial⟩ rfl rfl rfl rfl rfl rfl rfl) zd310_47 zxt311 rfl (by decide) (by decide) rfl ?_
            refine zv_ild hB zd310_50 rfl rfl ?_
            refine zv_zne hB zd310_51 rfl (fun hc => absurd hc (by omega)) (fun _ => ?_)
            refine zv_ald hB zd310_54 rfl rfl rfl ?_
            refine zv_con hB zd310_55 rfl ?_
            obtain ⟨r15, hr15, h⟩ := zi_bind h
            refine zv_cv hB (zv_emq (va2 := [.inr 0, .inl 10000]) (F := [.inl f0, .inl r13.1, .inl f2, .inl f3, .inl f4]) (F' := [.inl f0, .inl r13.1, .inl f2, .inl r15.2.1, .inl f4]) (G := [g0, g1, r13.2.1, g3, g4, g5, r13.2.2.1, r13.2.2.2.1, r13.2.2.2.2, g9, g10, g11, g12, g13]) (G' := [g0, g1, r13.2.1, g3, g4, g5, r13.2.2.1, r13.2.2.2.1, r13.2.2.2.2, r15.2.2.1, r15.2.2.2.1, g11, g12, r15.2.2.2.2]) (ρ := [0, 10, 11, 12, 13, 8, 14]) (φ := [3, 4, 1, 2]) (ψ := [9, 10, 11, 12, 7, 13]) [none, some 2, some 3, some 0, some 1] [none, none, none, none, none, none, none, some 4, none, some 0, some 1, some 2, some 3, some 5] zyw_M_ways zyw_M_both zye_M_both (by decide +kernel) (zt_M_ways hr15) ⟨⟨_, rfl, fun _ => rfl⟩, ⟨_, rfl, fun _ => rfl⟩, ⟨_, rfl, fun _ => rfl⟩, ⟨_, rfl, fun _ => rfl⟩, trivial⟩ ⟨rfl, rfl, rfl, rfl, rfl, rfl, trivial⟩ rfl rfl rfl rfl rfl rfl rfl) zd310_58 zxt268 rfl (by decide) (by decide) rfl ?_
            refine zv_goto hB zd310_61 rfl ?_
            have hw := Option.some.inj h
            subst hw
            exact hret _ _ _ _ _ zd310_80 (by trivial) ⟨rfl, rfl, rfl⟩
          · rw [if_pos hc12] at h
            refine zv_con hB zd310_42 rfl ?_
            have hw := Option.some.inj h
            subst hw
            exact hret _ _ _ _ _ zd310_43 (by trivial) ⟨rfl, rfl, rfl⟩
/-! M_leastClouds (III)I -/
-- names: 0 StarTalesModel('arg', 0), 1 (0, 422)(0, 12, 0), 2 (0, 14)(0, 12, 21), 3 (0, 13)(0, 12, 26), 4 (0, 14)(0, 12, 23), 5 (0, 14)(0, 12, 24), 6 (0, 220)(0, 12, 20), 7 (0, 220)(0, 12, 25), 8 (0, 24)(0, 12, 28), 9 (0, 8)(0, 12, 38), 10 (0, 8)(0, 12, 39), 11 (0, 12)(0, 12, 34), 12 (0, 12)(0, 12, 35), 13 (0, 8)(0, 12, 40)
-- fields: f0 = 0.clauses_, f1 = 0.seen0_, f2 = 0.nameMany_, f3 = 0.namesIn_, f4 = 0.taleLines_; arrays: g0 = 1, g1 = 2, g2 = 3, g3 = 4, g4 = 5, g5 = 6, g6 = 7, g7 = 8, g8 = 9, g9 = 10, g10 = 11, g11 = 12, g12 = 13; out: [('ret', None), ('f', 1), ('f', 2), ('g', 0), ('g', 2), ('g', 6), ('g', 7), ('g', 8), ('g', 9), ('g', 12)]
abbrev zy_M_leastClouds : zNL := (14, [(0, 12)], [(0, 12, 13, 0), (0, 12, 27, 1), (0, 12, 41, 2), (0, 12, 33, 3), (0, 12, 31, 4)], [(0, 12, 0, 1), (0, 12, 21, 2), (0, 12, 26, 3), (0, 12, 23, 4), (0, 12, 24, 5), (0, 12, 20, 6), (0, 12, 25, 7), (0, 12, 28, 8), (0, 12, 38, 9), (0, 12, 39, 10), (0, 12, 34, 11), (0, 12, 35, 12), (0, 12, 40, 13)], [(1, 0, 422, 0), (2, 0, 14, 1), (3, 0, 13, 2), (4, 0, 14, 3), (5, 0, 14, 4), (6, 0, 220, 5), (7, 0, 220, 6), (8, 0, 24, 7), (9, 0, 8, 8), (10, 0, 8, 9), (11, 0, 12, 10), (12, 0, 12, 11), (13, 0, 8, 12)])
theorem zyw_M_leastClouds : zv_wf zy_M_leastClouds = true := by decide +kernel
theorem zye_M_leastClouds : zv_ek2 zy_M_leastClouds = true := by decide +kernel
def zf_M_leastClouds_l0_b (x1 : Int) (x3 : Int) (x4 : Int) (f0 : Int) (f3 : Int) (f4 : Int) (g1 : (Int → Int)) (g3 : (Int → Int)) (g4 : (Int → Int)) (g5 : (Int → Int)) (g10 : (Int → Int)) (g11 : (Int → Int)) (rec : Int → Int → Int → (Int → Int) → (Int → Int) → (Int → Int) → (Int → Int) → (Int → Int) → (Int → Int) → (Int → Int) → Option (((Int × Int × (Int → Int) × (Int → Int) × (Int → Int) × (Int → Int) × (Int → Int) × (Int → Int) × (Int → Int)) ⊕ (Int × Int × Int × (Int → Int) × (Int → Int) × (Int → Int) × (Int → Int) × (Int → Int) × (Int → Int) × (Int → Int))))) (x5 : Int) (f1 : Int) (f2 : Int) (g0 : (Int → Int)) (g2 : (Int → Int)) (g6 : (Int → Int)) (g7 : (Int → Int)) (g8 : (Int → Int)) (g9 : (Int → Int)) (g12 : (Int → Int)) : Option (((Int × Int × (Int → Int) × (Int → Int) × (Int → Int) × (Int → Int) × (Int → Int) × (Int → Int) × (Int → Int)) ⊕ (Int × Int × Int × (Int → Int) × (Int → Int) × (Int → Int) × (Int → Int) × (Int → Int) × (Int → Int) × (Int → Int)))) := if x5 < 16777216 then (if (zi_and x5 (zi_xor x3 (-1))) = 0 then ((zf_M_canBeTold x1 f0 f1 f2 f3 f4 (zv_up g0 130 (zi_or x4 x5)) g1 g2 g3 g4 g5 g6 g7 g8 g9 g10 g11 g12).bind fun r5 => (if r5.1 = 0 then (some (.inr (x5, r5.2.1, r5.2.2.1, (zv_up (zv_up g0 130 (zi_or x4 x5)) 130 x4), r5.2.2.2.1, r5.2.2.2.2.1, r5.2.2.2.2.2.1, r5.2.2.2.2.2.2.1, r5.2.2.2.2.2.2.2.1, r5.2.2.2.2.2.2.2.2))) else (cond (zi_ne (zi_and x5 (zi_w (-x5)))) (zi_let (zi_or (zi_w (x5 + (zi_and x5 (zi_w (-x5))))) (zi_shr (zi_div (zi_xor x5 (zi_w (x5 + (zi_and x5 (zi_w (-x5)))))) (zi_and x5 (zi_w (-x5)))) 2)) fun v8 => (rec v8 r5.2.1 r5.2.2.1 (zv_up (zv_up g0 130 (zi_or x4 x5)) 130 x4) r5.2.2.2.1 r5.2.2.2.2.1 r5.2.2.2.2.2.1 r5.2.2.2.2.2.2.1 r5.2.2.2.2.2.2.2.1 r5.2.2.2.2.2.2.2.2)) none))) else (cond (zi_ne (zi_and x5 (zi_w (-x5)))) (zi_let (zi_or (zi_w (x5 + (zi_and x5 (zi_w (-x5))))) (zi_shr (zi_div (zi_xor x5 (zi_w (x5 + (zi_and x5 (zi_w (-x5)))))) (zi_and x5 (zi_w (-x5)))) 2)) fun v4 => (rec v4 f1 f2 g0 g2 g6 g7 g8 g9 g12)) none)) else (some (.inl (f1, f2, g0, g2, g6, g7, g8, g9, g12)))
def zf_M_leastClouds_l0 (x1 : Int) (x3 : Int) (x4 : Int) (f0 : Int) (f3 : Int) (f4 : Int) (g1 : (Int → Int)) (g3 : (Int → Int)) (g4 : (Int → Int)) (g5 : (Int → Int)) (g10 : (Int → Int)) (g11 : (Int → Int)) : Nat → Int → Int → Int → (Int → Int) → (Int → Int) → (Int → Int) → (Int → Int) → (Int → Int) → (Int → Int) → (Int → Int) → Option (((Int × Int × (Int → Int) × (Int → Int) × (Int → Int) × (Int → Int) × (Int → Int) × (Int → Int) × (Int → Int)) ⊕ (Int × Int × Int × (Int → Int) × (Int → Int) × (Int → Int) × (Int → Int) × (Int → Int) × (Int → Int) × (Int → Int))))
  | 0, _, _, _, _, _, _, _, _, _, _ => none
  | n + 1, x5, f1, f2, g0, g2, g6, g7, g8, g9, g12 => zf_M_leastClouds_l0_b x1 x3 x4 f0 f3 f4 g1 g3 g4 g5 g10 g11 (zf_M_leastClouds_l0 x1 x3 x4 f0 f3 f4 g1 g3 g4 g5 g10 g11 n) x5 f1 f2 g0 g2 g6 g7 g8 g9 g12
def zf_M_leastClouds (x1 : Int) (x2 : Int) (x3 : Int) (f0 : Int) (f1 : Int) (f2 : Int) (f3 : Int) (f4 : Int) (g0 : (Int → Int)) (g1 : (Int → Int)) (g2 : (Int → Int)) (g3 : (Int → Int)) (g4 : (Int → Int)) (g5 : (Int → Int)) (g6 : (Int → Int)) (g7 : (Int → Int)) (g8 : (Int → Int)) (g9 : (Int → Int)) (g10 : (Int → Int)) (g11 : (Int → Int)) (g12 : (Int → Int)) : Option (Int × Int × Int × (Int → Int) × (Int → Int) × (Int → Int) × (Int → Int) × (Int → Int) × (Int → Int) × (Int → Int)) := (zf_M_leastClouds_l0 x1 x3 (g0 130) f0 f3 f4 g1 g3 g4 g5 g10 g11 zi_fu (zi_w ((zi_shl 1 x2) - 1)) f1 f2 g0 g2 g6 g7 g8 g9 g12).bind fun q9 => Sum.elim (fun e10 => (some ((-1), e10.1, e10.2.1, e10.2.2.1, e10.2.2.2.1, e10.2.2.2.2.1, e10.2.2.2.2.2.1, e10.2.2.2.2.2.2.1, e10.2.2.2.2.2.2.2.1, e10.2.2.2.2.2.2.2.2))) (fun w11 => some w11) q9
theorem zd313_0 : decode zxm313.2.1 0 = .ok (.aload_n 0, 1) := by decide +kernel
theorem zd313_1 : decode zxm313.2.1 1 = .ok (.getfield 7, 3) := by decide +kernel
theorem zd313_4 : decode zxm313.2.1 4 = .ok (.sipush 130, 3) := by decide +kernel
theorem zd313_7 : decode zxm313.2.1 7 = .ok (.iaload, 1) := by decide +kernel
theorem zd313_8 : decode zxm313.2.1 8 = .ok (.istore 4, 2) := by decide +kernel
theorem zd313_10 : decode zxm313.2.1 10 = .ok (.iconst 1, 1) := by decide +kernel
theorem zd313_11 : decode zxm313.2.1 11 = .ok (.iload_n 2, 1) := by decide +kernel
theorem zd313_12 : decode zxm313.2.1 12 = .ok (.ishl, 1) := by decide +kernel
theorem zd313_13 : decode zxm313.2.1 13 = .ok (.iconst 1, 1) := by decide +kernel
theorem zd313_14 : decode zxm313.2.1 14 = .ok (.isub, 1) := by decide +kernel
theorem zd313_15 : decode zxm313.2.1 15 = .ok (.istore 5, 2) := by decide +kernel
theorem zd313_17 : decode zxm313.2.1 17 = .ok (.iload 5, 2) := by decide +kernel
theorem zd313_19 : decode zxm313.2.1 19 = .ok (.ldc_w 398, 3) := by decide +kernel
theorem zd313_22 : decode zxm313.2.1 22 = .ok (.if_icmp .ge 83, 3) := by decide +kernel
theorem zd313_25 : decode zxm313.2.1 25 = .ok (.iload 5, 2) := by decide +kernel
theorem zd313_27 : decode zxm313.2.1 27 = .ok (.iload_n 3, 1) := by decide +kernel
theorem zd313_28 : decode zxm313.2.1 28 = .ok (.iconst (-1), 1) := by decide +kernel
theorem zd313_29 : decode zxm313.2.1 29 = .ok (.ixor, 1) := by decide +kernel
theorem zd313_30 : decode zxm313.2.1 30 = .ok (.iand, 1) := by decide +kernel
theorem zd313_31 : decode zxm313.2.1 31 = .ok (.ifCond .ne 41, 3) := by decide +kernel
theorem zd313_34 : decode zxm313.2.1 34 = .ok (.aload_n 0, 1) := by decide +kernel
theorem zd313_35 : decode zxm313.2.1 35 = .ok (.getfield 7, 3) := by decide +kernel
theorem zd313_38 : decode zxm313.2.1 38 = .ok (.sipush 130, 3) := by decide +kernel
theorem zd313_41 : decode zxm313.2.1 41 = .ok (.iload 4, 2) := by decide +kernel
theorem zd313_43 : decode zxm313.2.1 43 = .ok (.iload 5, 2) := by decide +kernel
theorem zd313_45 : decode zxm313.2.1 45 = .ok (.ior, 1) := by decide +kernel
theorem zd313_46 : decode zxm313.2.1 46 = .ok (.iastore, 1) := by decide +kernel
theorem zd313_47 : decode zxm313.2.1 47 = .ok (.aload_n 0, 1) := by decide +kernel
theorem zd313_48 : decode zxm313.2.1 48 = .ok (.iload_n 1, 1) := by decide +kernel
theorem zd313_49 : decode zxm313.2.1 49 = .ok (.invokevirtual 369, 3) := by decide +kernel
theorem zd313_52 : decode zxm313.2.1 52 = .ok (.istore 6, 2) := by decide +kernel
theorem zd313_54 : decode zxm313.2.1 54 = .ok (.aload_n 0, 1) := by decide +kernel
theorem zd313_55 : decode zxm313.2.1 55 = .ok (.getfield 7, 3) := by decide +kernel
theorem zd313_58 : decode zxm313.2.1 58 = .ok (.sipush 130, 3) := by decide +kernel
theorem zd313_61 : decode zxm313.2.1 61 = .ok (.iload 4, 2) := by decide +kernel
theorem zd313_63 : decode zxm313.2.1 63 = .ok (.iastore, 1) := by decide +kernel
theorem zd313_64 : decode zxm313.2.1 64 = .ok (.iload 6, 2) := by decide +kernel
theorem zd313_66 : decode zxm313.2.1 66 = .ok (.ifCond .ne 6, 3) := by decide +kernel
theorem zd313_69 : decode zxm313.2.1 69 = .ok (.iload 5, 2) := by decide +kernel
theorem zd313_71 : decode zxm313.2.1 71 = .ok (.ireturn, 1) := by decide +kernel
theorem zd313_72 : decode zxm313.2.1 72 = .ok (.iload 5, 2) := by decide +kernel
theorem zd313_74 : decode zxm313.2.1 74 = .ok (.iload 5, 2) := by decide +kernel
theorem zd313_76 : decode zxm313.2.1 76 = .ok (.ineg, 1) := by decide +kernel
theorem zd313_77 : decode zxm313.2.1 77 = .ok (.iand, 1) := by decide +kernel
theorem zd313_78 : decode zxm313.2.1 78 = .ok (.istore 6, 2) := by decide +kernel
theorem zd313_80 : decode zxm313.2.1 80 = .ok (.iload 5, 2) := by decide +kernel
theorem zd313_82 : decode zxm313.2.1 82 = .ok (.iload 6, 2) := by decide +kernel
theorem zd313_84 : decode zxm313.2.1 84 = .ok (.iadd, 1) := by decide +kernel
theorem zd313_85 : decode zxm313.2.1 85 = .ok (.istore 7, 2) := by decide +kernel
theorem zd313_87 : decode zxm313.2.1 87 = .ok (.iload 7, 2) := by decide +kernel
theorem zd313_89 : decode zxm313.2.1 89 = .ok (.iload 5, 2) := by decide +kernel
theorem zd313_91 : decode zxm313.2.1 91 = .ok (.iload 7, 2) := by decide +kernel
theorem zd313_93 : decode zxm313.2.1 93 = .ok (.ixor, 1) := by decide +kernel
theorem zd313_94 : decode zxm313.2.1 94 = .ok (.iload 6, 2) := by decide +kernel
theorem zd313_96 : decode zxm313.2.1 96 = .ok (.idiv, 1) := by decide +kernel
theorem zd313_97 : decode zxm313.2.1 97 = .ok (.iconst 2, 1) := by decide +kernel
theorem zd313_98 : decode zxm313.2.1 98 = .ok (.ishr, 1) := by decide +kernel
theorem zd313_99 : decode zxm313.2.1 99 = .ok (.ior, 1) := by decide +kernel
theorem zd313_100 : decode zxm313.2.1 100 = .ok (.istore 5, 2) := by decide +kernel
theorem zd313_102 : decode zxm313.2.1 102 = .ok (.goto (-85), 3) := by decide +kernel
theorem zd313_105 : decode zxm313.2.1 105 = .ok (.iconst (-1), 1) := by decide +kernel
theorem zd313_106 : decode zxm313.2.1 106 = .ok (.ireturn, 1) := by decide +kernel
theorem zt_M_leastClouds {x1 : Int} {x2 : Int} {x3 : Int} {f0 : Int} {f1 : Int} {f2 : Int} {f3 : Int} {f4 : Int} {g0 : (Int → Int)} {g1 : (Int → Int)} {g2 : (Int → Int)} {g3 : (Int → Int)} {g4 : (Int → Int)} {g5 : (Int → Int)} {g6 : (Int → Int)} {g7 : (Int → Int)} {g8 : (Int → Int)} {g9 : (Int → Int)} {g10 : (Int → Int)} {g11 : (Int → Int)} {g12 : (Int → Int)} {o : Int × Int × Int × (Int → Int) × (Int → Int) × (Int → Int) × (Int → Int) × (Int → Int) × (Int → Int) × (Int → Int)} (h : zf_M_leastClouds x1 x2 x3 f0 f1 f2 f3 f4 g0 g1 g2 g3 g4 g5 g6 g7 g8 g9 g10 g11 g12 = some o) : zv_Fn z_TB z_cl z_KX zy_M_leastClouds zxm313 (7, 420) [.inr 0, .inl x1, .inl x2, .inl x3] [.inl f0, .inl f1, .inl f2, .inl f3, .inl f4] [g0, g1, g2, g3, g4, g5, g6, g7, g8, g9, g10, g11, g12] (some o.1) [.inl f0, .inl o.2.1, .inl o.2.2.1, .inl f3, .inl f4] [o.2.2.2.1, g1, o.2.2.2.2.1, g3, g4, g5, o.2.2.2.2.2.1, o.2.2.2.2.2.2.1, o.2.2.2.2.2.2.2.1, o.2.2.2.2.2.2.2.2.1, g10, g11, o.2.2.2.2.2.2.2.2.2] := zv_meth (K := (z_KF13, z_KC13, z_KL13, z_KT13, [], [], [], none)) (FT := z_FT) (MT := z_MT) (n := 4) zxp313 (z_ks13 _ (fun _ h => List.mem_cons_of_mem _ h) _ _ _ _ (fun j r h _ => by cases h)) (fun _ _ => zs_KX_p) zyw_M_leastClouds (fun va F G h => by obtain ⟨rfl, _⟩ := h; rfl) (fun va F G h => by obtain ⟨rfl, _⟩ := h; rfl) rfl fun good va F G hB hret hvret hP => by
  obtain ⟨rfl, rfl, rfl⟩ := hP
  have l0 : ∀ (n : Nat) (x1 : Int) (x3 : Int) (x4 : Int) (x5 : Int) (f1 : Int) (f2 : Int) (g0 : (Int → Int)) (g2 : (Int → Int)) (g6 : (Int → Int)) (g7 : (Int → Int)) (g8 : (Int → Int)) (g9 : (Int → Int)) (g12 : (Int → Int)) (q : ((Int × Int × (Int → Int) × (Int → Int) × (Int → Int) × (Int → Int) × (Int → Int) × (Int → Int) × (Int → Int)) ⊕ (Int × Int × Int × (Int → Int) × (Int → Int) × (Int → Int) × (Int → Int) × (Int → Int) × (Int → Int) × (Int → Int)))), zf_M_leastClouds_l0 x1 x3 x4 f0 f3 f4 g1 g3 g4 g5 g10 g11 n x5 f1 f2 g0 g2 g6 g7 g8 g9 g12 = some q → (Sum.elim (fun e : Int × Int × (Int → Int) × (Int → Int) × (Int → Int) × (Int → Int) × (Int → Int) × (Int → Int) × (Int → Int) => good 105 [.inr 1000, .inr 1000, .inr 1000, .inr 1000, .inr 1000, .inr 1000, .inr 1000, .inr 1000] [] [.inl f0, .inl e.1, .inl e.2.1, .inl f3, .inl f4] [e.2.2.1, g1, e.2.2.2.1, g3, g4, g5, e.2.2.2.2.1, e.2.2.2.2.2.1, e.2.2.2.2.2.2.1, e.2.2.2.2.2.2.2.1, g10, g11, e.2.2.2.2.2.2.2.2]) (fun w : Int × Int × Int × (Int → Int) × (Int → Int) × (Int → Int) × (Int → Int) × (Int → Int) × (Int → Int) × (Int → Int) => w = o) q) → good 17 [.inr 0, .inl x1, .inr 1000, .inl x3, .inl x4, .inl x5, .inr 1000, .inr 1000] [] [.inl f0, .inl f1, .inl f2, .inl f3, .inl f4] [g0, g1, g2, g3, g4, g5, g6, g7, g8, g9, g10, g11, g12] := by
    intro n
    induction n with
    | zero => intro x1 x3 x4 x5 f1 f2 g0 g2 g6 g7 g8 g9 g12 q h; exact absurd (show none = some q from h) (fun h => by cases h)
    | succ n ih =>
      intro x1 x3 x4 x5 f1 f2 g0 g2 g6 g7 g8 g9 g12 q h hK
      replace h : zf_M_leastClouds_l0_b x1 x3 x4 f0 f3 f4 g1 g3 g4 g5 g10 g11 (zf_M_leastClouds_l0 x1 x3 x4 f0 f3 f4 g1 g3 g4 g5 g10 g11 n) x5 f1 f2 g0 g2 g6 g7 g8 g9 g12 = some q := h
      unfold zf_M_leastClouds_l0_b at h
      refine zv_ild hB zd313_17 rfl rfl ?_
      refine zv_con (n := 16777216) hB zd313_19 (by decide +kernel) ?_
      refine zv_cge hB zd313_22 rfl (fun hc1 => ?_) (fun hc1 => ?_)
      · rw [if_neg (Int.not_lt.mpr hc1)] at h
        have hq := Option.some.inj h
        subst hq
        refine zv_wk hB (L' := [.inr 1000, .inr 1000, .inr 1000, .inr 1000, .inr 1000, .inr 1000, .inr 1000, .inr 1000]) (F' := [.inl f0, .inl f1, .inl f2, .inl f3, .inl f4]) ⟨fun (h : zv_is (.inr 1000)) => (Nat.lt_irrefl 1000 h).elim, fun (h : zv_is (.inr 1000)) => (Nat.lt_irrefl 1000 h).elim, fun (h : zv_is (.inr 1000)) => (Nat.lt_irrefl 1000 h).elim, fun (h : zv_is (.inr 1000)) => (Nat.lt_irrefl 1000 h).elim, fun (h : zv_is (.inr 1000)) => (Nat.lt_irrefl 1000 h).elim, fun (h : zv_is (.inr 1000)) => (Nat.lt_irrefl 1000 h).elim, fun (h : zv_is (.inr 1000)) => (Nat.lt_irrefl 1000 h).elim, fun (h : zv_is (.inr 1000)) => (Nat.lt_irrefl 1000 h).elim, trivial⟩ ⟨fun _ => rfl, fun _ => rfl, fun _ => rfl, fun _ => rfl, fun _ => rfl, trivial⟩ ?_
        exact hK
      · rw [if_pos hc1] at h
        refine zv_ild hB zd313_25 rfl rfl ?_
        refine zv_ild hB zd313_27 rfl rfl ?_
        refine zv_con hB zd313_28 rfl ?_
        refine zv_xorw hB zd313_29 ?_
        refine zv_andw hB zd313_30 ?_
        refine zv_zne hB zd313_31 rfl (fun hc2 => ?_) (fun hc2 => ?_)
        · rw [if_neg hc2] at h
          refine zv_ild hB zd313_72 rfl rfl ?_
          refine zv_ild hB zd313_74 rfl rfl ?_
          refine zv_negw hB zd313_76 ?_
          refine zv_andw hB zd313_77 ?_
          refine zv_ist hB zd313_78 rfl rfl rfl ?_
          refine zv_ild hB zd313_80 rfl rfl ?_
          refine zv_ild hB zd313_82 rfl rfl ?_
          refine zv_addw hB zd313_84 ?_
          refine zv_ist hB zd313_85 rfl rfl rfl ?_
          refine zv_ild hB zd313_87 rfl rfl ?_
          refine zv_ild hB zd313_89 rfl rfl ?_
          refine zv_ild hB zd313_91 rfl rfl ?_
          refine zv_xorw hB zd313_93 ?_
          refine zv_ild hB zd313_94 rfl rfl ?_
          obtain ⟨c3, h⟩ := zi_if h
          refine zv_divw hB zd313_96 (zi_ne_ok c3) ?_
          refine zv_con hB zd313_97 rfl ?_
          refine zv_shrw hB zd313_98 ?_
          refine zv_orw hB zd313_99 ?_
          refine zv_ist hB zd313_100 rfl rfl rfl ?_
          obtain ⟨v4, hv4, h⟩ := zi_letp h
          rw [hv4]
          refine zv_goto hB zd313_102 rfl ?_
          refine zv_wk hB (L' := [.inr 0, .inl x1, .inr 1000, .inl x3, .inl x4, .inl v4, .inr 1000, .inr 1000]) (F' := [.inl f0, .inl f1, .inl f2, .inl f3, .inl f4]) ⟨fun _ => rfl, fun _ => rfl, fun (h : zv_is (.inr 1000)) => (Nat.lt_irrefl 1000 h).elim, fun _ => rfl, fun _ => rfl, fun _ => rfl, fun (h : zv_is (.inr 1000)) => (Nat.lt_irrefl 1000 h).elim, fun (h : zv_is (.inr 1000)) => (Nat.lt_irrefl 1000 h).elim, trivial⟩ ⟨fun _ => rfl, fun _ => rfl, fun _ => rfl, fun _ => rfl, fun _ => rfl, trivial⟩ ?_
          exact ih _ _ _ _ _ _ _ _ _ _ _ _ _ q h hK
        · rw [if_pos hc2] at h
          refine zv_ald hB zd313_34 rfl rfl rfl ?_
          refine zv_getr hB zd313_35 rfl ?_
          refine zv_con hB zd313_38 rfl ?_
          refine zv_ild hB zd313_41 rfl rfl ?_
          refine zv_ild hB zd313_43 rfl rfl ?_
          refine zv_orw hB zd313_45 ?_
          refine zv_iast hB zd313_46 rfl rfl (by decide) (by decide) ?_
          refine zv_ald hB zd313_47 rfl rfl rfl ?_
          refine zv_ild hB zd313_48 rfl rfl ?_
          obtain ⟨r5, hr5, h⟩ := zi_bind h
          refine zv_cv hB (zv_emq (va2 := [.inr 0, .inl x1]) (F := [.inl f0, .inl f1, .inl f2, .inl f3, .inl f4]) (F' := [.inl f0, .inl r5.2.1, .inl r5.2.2.1, .inl f3, .inl f4]) (G := [(zv_up g0 130 (zi_or x4 x5)), g1, g2, g3, g4, g5, g6, g7, g8, g9, g10, g11, g12]) (G' := [(zv_up g0 130 (zi_or x4 x5)), g1, r5.2.2.2.1, g3, g4, g5, r5.2.2.2.2.1, r5.2.2.2.2.2.1, r5.2.2.2.2.2.2.1, r5.2.2.2.2.2.2.2.1, g10, g11, r5.2.2.2.2.2.2.2.2]) (ρ := [0, 1, 2, 3, 4, 5, 6, 7, 8, 9, 10, 11, 12, 13]) (φ := [0, 1, 2, 3, 4]) (ψ := [0, 1, 2, 3, 4, 5, 6, 7, 8, 9, 10, 11, 12]) [some 0, some 1, some 2, some 3, some 4] [some 0, some 1, some 2, some 3, some 4, some 5, some 6, some 7, some 8, some 9, some 10, some 11, some 12] zyw_M_canBeTold zyw_M_leastClouds zye_M_leastClouds (by decide +kernel) (zt_M_canBeTold hr5) ⟨⟨_, rfl, fun _ => rfl⟩, ⟨_, rfl, fun _ => rfl⟩, ⟨_, rfl, fun _ => rfl⟩, ⟨_, rfl, fun _ => rfl⟩, ⟨_, rfl, fun _ => rfl⟩, trivial⟩ ⟨rfl, rfl, rfl, rfl, rfl, rfl, rfl, rfl, rfl, rfl, rfl, rfl, rfl, trivial⟩ rfl rfl rfl rfl rfl rfl rfl) zd313_49 zxt272 rfl (by decide) (by decide) rfl ?_
          refine zv_ist hB zd313_52 rfl rfl rfl ?_
          refine zv_ald hB zd313_54 rfl rfl rfl ?_
          refine zv_getr hB zd313_55 rfl ?_
          refine zv_con hB zd313_58 rfl ?_
          refine zv_ild hB zd313_61 rfl rfl ?_
          refine zv_iast hB zd313_63 rfl rfl (by decide) (by decide) ?_
          refine zv_ild hB zd313_64 rfl rfl ?_
          refine zv_zne hB zd313_66 rfl (fun hc6 => ?_) (fun hc6 => ?_)
          · rw [if_neg hc6] at h
            refine zv_ild hB zd313_72 rfl rfl ?_
            refine zv_ild hB zd313_74 rfl rfl ?_
            refine zv_negw hB zd313_76 ?_
            refine zv_andw hB zd313_77 ?_
            refine zv_ist hB zd313_78 rfl rfl rfl ?_
            refine zv_ild hB zd313_80 rfl rfl ?_
            refine zv_ild hB zd313_82 rfl rfl ?_
            refine zv_addw hB zd313_84 ?_
            refine zv_ist hB zd313_85 rfl rfl rfl ?_
            refine zv_ild hB zd313_87 rfl rfl ?_
            refine zv_ild hB zd313_89 rfl rfl ?_
            refine zv_ild hB zd313_91 rfl rfl ?_
            refine zv_xorw hB zd313_93 ?_
            refine zv_ild hB zd313_94 rfl rfl ?_
            obtain ⟨c7, h⟩ := zi_if h
            refine zv_divw hB zd313_96 (zi_ne_ok c7) ?_
            refine zv_con hB zd313_97 rfl ?_
            refine zv_shrw hB zd313_98 ?_
            refine zv_orw hB zd313_99 ?_
            refine zv_ist hB zd313_100 rfl rfl rfl ?_
            obtain ⟨v8, hv8, h⟩ := zi_letp h
            rw [hv8]
            refine zv_goto hB zd313_102 rfl ?_
            refine zv_wk hB (L' := [.inr 0, .inl x1, .inr 1000, .inl x3, .inl x4, .inl v8, .inr 1000, .inr 1000]) (F' := [.inl f0, .inl r5.2.1, .inl r5.2.2.1, .inl f3, .inl f4]) ⟨fun _ => rfl, fun _ => rfl, fun (h : zv_is (.inr 1000)) => (Nat.lt_irrefl 1000 h).elim, fun _ => rfl, fun _ => rfl, fun _ => rfl, fun (h : zv_is (.inr 1000)) => (Nat.lt_irrefl 1000 h).elim, fun (h : zv_is (.inr 1000)) => (Nat.lt_irrefl 1000 h).elim, trivial⟩ ⟨fun _ => rfl, fun _ => rfl, fun _ => rfl, fun _ => rfl, fun _ => rfl, trivial⟩ ?_
            exact ih _ _ _ _ _ _ _ _ _ _ _ _ _ q h hK
          · rw [if_pos hc6] at h
            refine zv_ild hB zd313_69 rfl rfl ?_
            have hw : (x5, r5.2.1, r5.2.2.1, (zv_up (zv_up g0 130 (zi_or x4 x5)) 130 x4), r5.2.2.2.1, r5.2.2.2.2.1, r5.2.2.2.2.2.1, r5.2.2.2.2.2.2.1, r5.2.2.2.2.2.2.2.1, r5.2.2.2.2.2.2.2.2) = o := zi_rk (Option.some.inj h) hK
            subst hw
            exact hret _ _ _ _ _ zd313_71 (by trivial) ⟨rfl, rfl, rfl⟩
  unfold zf_M_leastClouds at h
  refine zv_ald hB zd313_0 rfl rfl rfl ?_
  refine zv_getr hB zd313_1 rfl ?_
  refine zv_con hB zd313_4 rfl ?_
  refine zv_iald hB zd313_7 rfl rfl (by decide) (by decide) (fun _ _ => ?_)
  refine zv_ist hB zd313_8 rfl rfl rfl ?_
  refine zv_con hB zd313_10 rfl ?_
  refine zv_ild hB zd313_11 rfl rfl ?_
  refine zv_shlw hB zd313_12 ?_
  refine zv_con hB zd313_13 rfl ?_
  refine zv_subw hB zd313_14 ?_
  refine zv_ist hB zd313_15 rfl rfl rfl ?_
  obtain ⟨q9, hq9, h⟩ := zi_bind h
  refine zv_wk hB (L' := [.inr 0, .inl x1, .inr 1000, .inl x3, .inl (g0 130), .inl (zi_w ((zi_shl 1 x2) - 1)), .inr 1000, .inr 1000]) (F' := [.inl f0, .inl f1, .inl f2, .inl f3, .inl f4]) ⟨fun _ => rfl, fun _ => rfl, fun (h : zv_is (.inr 1000)) => (Nat.lt_irrefl 1000 h).elim, fun _ => rfl, fun _ => rfl, fun _ => rfl, fun (h : zv_is (.inr 1000)) => (Nat.lt_irrefl 1000 h).elim, fun (h : zv_is (.inr 1000)) => (Nat.lt_irrefl 1000 h).elim, trivial⟩ ⟨fun _ => rfl, fun _ => rfl, fun _ => rfl, fun _ => rfl, fun _ => rfl, trivial⟩ ?_
  refine l0 _ _ _ _ _ _ _ _ _ _ _ _ _ _ q9 hq9 ?_
  rcases q9 with e10 | w11
  · replace h := zi_sl h
    show good 105 [.inr 1000, .inr 1000, .inr 1000, .inr 1000, .inr 1000, .inr 1000, .inr 1000, .inr 1000] [] [.inl f0, .inl e10.1, .inl e10.2.1, .inl f3, .inl f4] [e10.2.2.1, g1, e10.2.2.2.1, g3, g4, g5, e10.2.2.2.2.1, e10.2.2.2.2.2.1, e10.2.2.2.2.2.2.1, e10.2.2.2.2.2.2.2.1, g10, g11, e10.2.2.2.2.2.2.2.2]
    refine zv_con hB zd313_105 rfl ?_
    have hw := Option.some.inj h
    subst hw
    exact hret _ _ _ _ _ zd313_106 (by trivial) ⟨rfl, rfl, rfl⟩
  · exact Option.some.inj h
/-! M_hidden (III)I -/
-- names: 0 StarTalesModel('arg', 0), 1 (0, 422)(0, 12, 0), 2 (0, 14)(0, 12, 21), 3 (0, 13)(0, 12, 26), 4 (0, 14)(0, 12, 23), 5 (0, 14)(0, 12, 24), 6 (0, 220)(0, 12, 20), 7 (0, 220)(0, 12, 25), 8 (0, 24)(0, 12, 28), 9 (0, 8)(0, 12, 38), 10 (0, 8)(0, 12, 39), 11 (0, 12)(0, 12, 34), 12 (0, 12)(0, 12, 35), 13 (0, 8)(0, 12, 40)
-- fields: f0 = 0.taleLines_, f1 = 0.clauses_, f2 = 0.seen0_, f3 = 0.nameMany_, f4 = 0.namesIn_; arrays: g0 = 1, g1 = 2, g2 = 3, g3 = 4, g4 = 5, g5 = 6, g6 = 7, g7 = 8, g8 = 9, g9 = 10, g10 = 11, g11 = 12, g12 = 13; out: [('ret', None), ('f', 2), ('f', 3), ('g', 0), ('g', 2), ('g', 6), ('g', 7), ('g', 8), ('g', 9), ('g', 12)]
abbrev zy_M_hidden : zNL := (14, [(0, 12)], [(0, 12, 31, 0), (0, 12, 13, 1), (0, 12, 27, 2), (0, 12, 41, 3), (0, 12, 33, 4)], [(0, 12, 0, 1), (0, 12, 21, 2), (0, 12, 26, 3), (0, 12, 23, 4), (0, 12, 24, 5), (0, 12, 20, 6), (0, 12, 25, 7), (0, 12, 28, 8), (0, 12, 38, 9), (0, 12, 39, 10), (0, 12, 34, 11), (0, 12, 35, 12), (0, 12, 40, 13)], [(1, 0, 422, 0), (2, 0, 14, 1), (3, 0, 13, 2), (4, 0, 14, 3), (5, 0, 14, 4), (6, 0, 220, 5), (7, 0, 220, 6), (8, 0, 24, 7), (9, 0, 8, 8), (10, 0, 8, 9), (11, 0, 12, 10), (12, 0, 12, 11), (13, 0, 8, 12)])
theorem zyw_M_hidden : zv_wf zy_M_hidden = true := by decide +kernel
theorem zye_M_hidden : zv_ek2 zy_M_hidden = true := by decide +kernel
def zf_M_hidden_l0_b (f2 : Int) (g0 : (Int → Int)) (rec : Int → Int → Option (Int)) (x5 : Int) (x6 : Int) : Option (Int) := if x6 < 24 then ((zf_M_has f2 x6).bind fun r9 => (if r9 = 0 then (rec x5 (zi_w (x6 + 1))) else ((zf_M_standsAt x6 g0).bind fun r11 => (rec (zi_or x5 (zi_shl 1 r11)) (zi_w (x6 + 1)))))) else (some x5)
def zf_M_hidden_l0 (f2 : Int) (g0 : (Int → Int)) : Nat → Int → Int → Option (Int)
  | 0, _, _ => none
  | n + 1, x5, x6 => zf_M_hidden_l0_b f2 g0 (zf_M_hidden_l0 f2 g0 n) x5 x6
def zf_M_hidden_l1_b (x3 : Int) (x4 : Int) (x5 : Int) (f0 : Int) (f1 : Int) (f4 : Int) (g1 : (Int → Int)) (g3 : (Int → Int)) (g4 : (Int → Int)) (g5 : (Int → Int)) (g10 : (Int → Int)) (g11 : (Int → Int)) (rec : Int → Int → Int → (Int → Int) → (Int → Int) → (Int → Int) → (Int → Int) → (Int → Int) → (Int → Int) → (Int → Int) → Option (((Int × Int × (Int → Int) × (Int → Int) × (Int → Int) × (Int → Int) × (Int → Int) × (Int → Int) × (Int → Int)) ⊕ (Int × Int × Int × (Int → Int) × (Int → Int) × (Int → Int) × (Int → Int) × (Int → Int) × (Int → Int) × (Int → Int))))) (x6 : Int) (f2 : Int) (f3 : Int) (g0 : (Int → Int)) (g2 : (Int → Int)) (g6 : (Int → Int)) (g7 : (Int → Int)) (g8 : (Int → Int)) (g9 : (Int → Int)) (g12 : (Int → Int)) : Option (((Int × Int × (Int → Int) × (Int → Int) × (Int → Int) × (Int → Int) × (Int → Int) × (Int → Int) × (Int → Int)) ⊕ (Int × Int × Int × (Int → Int) × (Int → Int) × (Int → Int) × (Int → Int) × (Int → Int) × (Int → Int) × (Int → Int)))) := if 4 < x6 then (some (.inl (f2, f3, g0, g2, g6, g7, g8, g9, g12))) else ((zf_M_leastClouds x4 x6 x5 f1 f2 f3 f4 f0 g0 g1 g2 g3 g4 g5 g6 g7 g8 g9 g10 g11 g12).bind fun r14 => (if r14.1 = (-1) then (rec (zi_w (x6 + 1)) r14.2.1 r14.2.2.1 r14.2.2.2.1 r14.2.2.2.2.1 r14.2.2.2.2.2.1 r14.2.2.2.2.2.2.1 r14.2.2.2.2.2.2.2.1 r14.2.2.2.2.2.2.2.2.1 r14.2.2.2.2.2.2.2.2.2) else (if x3 = 0 then (some (.inr (x6, r14.2.1, r14.2.2.1, r14.2.2.2.1, r14.2.2.2.2.1, r14.2.2.2.2.2.1, r14.2.2.2.2.2.2.1, r14.2.2.2.2.2.2.2.1, r14.2.2.2.2.2.2.2.2.1, r14.2.2.2.2.2.2.2.2.2))) else (some (.inr (r14.1, r14.2.1, r14.2.2.1, r14.2.2.2.1, r14.2.2.2.2.1, r14.2.2.2.2.2.1, r14.2.2.2.2.2.2.1, r14.2.2.2.2.2.2.2.1, r14.2.2.2.2.2.2.2.2.1, r14.2.2.2.2.2.2.2.2.2))))))
def zf_M_hidden_l1 (x3 : Int) (x4 : Int) (x5 : Int) (f0 : Int) (f1 : Int) (f4 : Int) (g1 : (Int → Int)) (g3 : (Int → Int)) (g4 : (Int → Int)) (g5 : (Int → Int)) (g10 : (Int → Int)) (g11 : (Int → Int)) : Nat → Int → Int → Int → (Int → Int) → (Int → Int) → (Int → Int) → (Int → Int) → (Int → Int) → (Int → Int) → (Int → Int) → Option (((Int × Int × (Int → Int) × (Int → Int) × (Int → Int) × (Int → Int) × (Int → Int) × (Int → Int) × (Int → Int)) ⊕ (Int × Int × Int × (Int → Int) × (Int → Int) × (Int → Int) × (Int → Int) × (Int → Int) × (Int → Int) × (Int → Int))))
  | 0, _, _, _, _, _, _, _, _, _, _ => none
  | n + 1, x6, f2, f3, g0, g2, g6, g7, g8, g9, g12 => zf_M_hidden_l1_b x3 x4 x5 f0 f1 f4 g1 g3 g4 g5 g10 g11 (zf_M_hidden_l1 x3 x4 x5 f0 f1 f4 g1 g3 g4 g5 g10 g11 n) x6 f2 f3 g0 g2 g6 g7 g8 g9 g12
def zf_M_hidden (x1 : Int) (x2 : Int) (x3 : Int) (f0 : Int) (f1 : Int) (f2 : Int) (f3 : Int) (f4 : Int) (g0 : (Int → Int)) (g1 : (Int → Int)) (g2 : (Int → Int)) (g3 : (Int → Int)) (g4 : (Int → Int)) (g5 : (Int → Int)) (g6 : (Int → Int)) (g7 : (Int → Int)) (g8 : (Int → Int)) (g9 : (Int → Int)) (g10 : (Int → Int)) (g11 : (Int → Int)) (g12 : (Int → Int)) : Option (Int × Int × Int × (Int → Int) × (Int → Int) × (Int → Int) × (Int → Int) × (Int → Int) × (Int → Int) × (Int → Int)) := (zf_M_isPlace x1 x2).bind fun r1 => (if r1 = 0 then (some ((-1), f2, f3, g0, g2, g6, g7, g8, g9, g12)) else ((zf_M_in x3 0 1).bind fun r3 => (if r3 = 0 then (some ((-1), f2, f3, g0, g2, g6, g7, g8, g9, g12)) else (if f0 = 0 then (some ((-1), f2, f3, g0, g2, g6, g7, g8, g9, g12)) else ((zf_M_canBeTold (zi_w ((zi_w (24 * x2)) + x1)) f1 f2 f3 f4 f0 g0 g1 g2 g3 g4 g5 g6 g7 g8 g9 g10 g11 g12).bind fun r6 => (if r6.1 = 0 then (some ((-3), r6.2.1, r6.2.2.1, g0, r6.2.2.2.1, r6.2.2.2.2.1, r6.2.2.2.2.2.1, r6.2.2.2.2.2.2.1, r6.2.2.2.2.2.2.2.1, r6.2.2.2.2.2.2.2.2)) else ((zf_M_hidden_l0 r6.2.1 g0 zi_fu 0 0).bind fun q12 => ((zf_M_hidden_l1 x3 (zi_w ((zi_w (24 * x2)) + x1)) q12 f0 f1 f4 g1 g3 g4 g5 g10 g11 zi_fu 1 r6.2.1 r6.2.2.1 g0 r6.2.2.2.1 r6.2.2.2.2.1 r6.2.2.2.2.2.1 r6.2.2.2.2.2.2.1 r6.2.2.2.2.2.2.2.1 r6.2.2.2.2.2.2.2.2).bind fun q17 => Sum.elim (fun e18 => (some ((-2), e18.1, e18.2.1, e18.2.2.1, e18.2.2.2.1, e18.2.2.2.2.1, e18.2.2.2.2.2.1, e18.2.2.2.2.2.2.1, e18.2.2.2.2.2.2.2.1, e18.2.2.2.2.2.2.2.2))) (fun w19 => some w19) q17))))))))
theorem zd312_0 : decode zxm312.2.1 0 = .ok (.iload_n 1, 1) := by decide +kernel
theorem zd312_1 : decode zxm312.2.1 1 = .ok (.iload_n 2, 1) := by decide +kernel
theorem zd312_2 : decode zxm312.2.1 2 = .ok (.invokestatic 154, 3) := by decide +kernel
theorem zd312_5 : decode zxm312.2.1 5 = .ok (.ifCond .eq 19, 3) := by decide +kernel
theorem zd312_8 : decode zxm312.2.1 8 = .ok (.iload_n 3, 1) := by decide +kernel
theorem zd312_9 : decode zxm312.2.1 9 = .ok (.iconst 0, 1) := by decide +kernel
theorem zd312_10 : decode zxm312.2.1 10 = .ok (.iconst 1, 1) := by decide +kernel
theorem zd312_11 : decode zxm312.2.1 11 = .ok (.invokestatic 150, 3) := by decide +kernel
theorem zd312_14 : decode zxm312.2.1 14 = .ok (.ifCond .eq 10, 3) := by decide +kernel
theorem zd312_17 : decode zxm312.2.1 17 = .ok (.aload_n 0, 1) := by decide +kernel
theorem zd312_18 : decode zxm312.2.1 18 = .ok (.getfield 351, 3) := by decide +kernel
theorem zd312_21 : decode zxm312.2.1 21 = .ok (.ifCond .ne 5, 3) := by decide +kernel
theorem zd312_24 : decode zxm312.2.1 24 = .ok (.iconst (-1), 1) := by decide +kernel
theorem zd312_25 : decode zxm312.2.1 25 = .ok (.ireturn, 1) := by decide +kernel
theorem zd312_26 : decode zxm312.2.1 26 = .ok (.bipush 24, 2) := by decide +kernel
theorem zd312_28 : decode zxm312.2.1 28 = .ok (.iload_n 2, 1) := by decide +kernel
theorem zd312_29 : decode zxm312.2.1 29 = .ok (.imul, 1) := by decide +kernel
theorem zd312_30 : decode zxm312.2.1 30 = .ok (.iload_n 1, 1) := by decide +kernel
theorem zd312_31 : decode zxm312.2.1 31 = .ok (.iadd, 1) := by decide +kernel
theorem zd312_32 : decode zxm312.2.1 32 = .ok (.istore 4, 2) := by decide +kernel
theorem zd312_34 : decode zxm312.2.1 34 = .ok (.aload_n 0, 1) := by decide +kernel
theorem zd312_35 : decode zxm312.2.1 35 = .ok (.iload 4, 2) := by decide +kernel
theorem zd312_37 : decode zxm312.2.1 37 = .ok (.invokevirtual 369, 3) := by decide +kernel
theorem zd312_40 : decode zxm312.2.1 40 = .ok (.ifCond .ne 6, 3) := by decide +kernel
theorem zd312_43 : decode zxm312.2.1 43 = .ok (.bipush (-3), 2) := by decide +kernel
theorem zd312_45 : decode zxm312.2.1 45 = .ok (.ireturn, 1) := by decide +kernel
theorem zd312_46 : decode zxm312.2.1 46 = .ok (.iconst 0, 1) := by decide +kernel
theorem zd312_47 : decode zxm312.2.1 47 = .ok (.istore 5, 2) := by decide +kernel
theorem zd312_49 : decode zxm312.2.1 49 = .ok (.iconst 0, 1) := by decide +kernel
theorem zd312_50 : decode zxm312.2.1 50 = .ok (.istore 6, 2) := by decide +kernel
theorem zd312_52 : decode zxm312.2.1 52 = .ok (.iload 6, 2) := by decide +kernel
theorem zd312_54 : decode zxm312.2.1 54 = .ok (.bipush 24, 2) := by decide +kernel
theorem zd312_56 : decode zxm312.2.1 56 = .ok (.if_icmp .ge 34, 3) := by decide +kernel
theorem zd312_59 : decode zxm312.2.1 59 = .ok (.aload_n 0, 1) := by decide +kernel
theorem zd312_60 : decode zxm312.2.1 60 = .ok (.getfield 303, 3) := by decide +kernel
theorem zd312_63 : decode zxm312.2.1 63 = .ok (.iload 6, 2) := by decide +kernel
theorem zd312_65 : decode zxm312.2.1 65 = .ok (.invokestatic 138, 3) := by decide +kernel
theorem zd312_68 : decode zxm312.2.1 68 = .ok (.ifCond .eq 16, 3) := by decide +kernel
theorem zd312_71 : decode zxm312.2.1 71 = .ok (.iload 5, 2) := by decide +kernel
theorem zd312_73 : decode zxm312.2.1 73 = .ok (.iconst 1, 1) := by decide +kernel
theorem zd312_74 : decode zxm312.2.1 74 = .ok (.aload_n 0, 1) := by decide +kernel
theorem zd312_75 : decode zxm312.2.1 75 = .ok (.iload 6, 2) := by decide +kernel
theorem zd312_77 : decode zxm312.2.1 77 = .ok (.invokevirtual 281, 3) := by decide +kernel
theorem zd312_80 : decode zxm312.2.1 80 = .ok (.ishl, 1) := by decide +kernel
theorem zd312_81 : decode zxm312.2.1 81 = .ok (.ior, 1) := by decide +kernel
theorem zd312_82 : decode zxm312.2.1 82 = .ok (.istore 5, 2) := by decide +kernel
theorem zd312_84 : decode zxm312.2.1 84 = .ok (.iinc 6 1, 3) := by decide +kernel
theorem zd312_87 : decode zxm312.2.1 87 = .ok (.goto (-35), 3) := by decide +kernel
theorem zd312_90 : decode zxm312.2.1 90 = .ok (.iconst 1, 1) := by decide +kernel
theorem zd312_91 : decode zxm312.2.1 91 = .ok (.istore 6, 2) := by decide +kernel
theorem zd312_93 : decode zxm312.2.1 93 = .ok (.iload 6, 2) := by decide +kernel
theorem zd312_95 : decode zxm312.2.1 95 = .ok (.iconst 4, 1) := by decide +kernel
theorem zd312_96 : decode zxm312.2.1 96 = .ok (.if_icmp .gt 39, 3) := by decide +kernel
theorem zd312_99 : decode zxm312.2.1 99 = .ok (.aload_n 0, 1) := by decide +kernel
theorem zd312_100 : decode zxm312.2.1 100 = .ok (.iload 4, 2) := by decide +kernel
theorem zd312_102 : decode zxm312.2.1 102 = .ok (.iload 6, 2) := by decide +kernel
theorem zd312_104 : decode zxm312.2.1 104 = .ok (.iload 5, 2) := by decide +kernel
theorem zd312_106 : decode zxm312.2.1 106 = .ok (.invokevirtual 472, 3) := by decide +kernel
theorem zd312_109 : decode zxm312.2.1 109 = .ok (.istore 7, 2) := by decide +kernel
theorem zd312_111 : decode zxm312.2.1 111 = .ok (.iload 7, 2) := by decide +kernel
theorem zd312_113 : decode zxm312.2.1 113 = .ok (.iconst (-1), 1) := by decide +kernel
theorem zd312_114 : decode zxm312.2.1 114 = .ok (.if_icmp .eq 15, 3) := by decide +kernel
theorem zd312_117 : decode zxm312.2.1 117 = .ok (.iload_n 3, 1) := by decide +kernel
theorem zd312_118 : decode zxm312.2.1 118 = .ok (.ifCond .ne 8, 3) := by decide +kernel
theorem zd312_121 : decode zxm312.2.1 121 = .ok (.iload 6, 2) := by decide +kernel
theorem zd312_123 : decode zxm312.2.1 123 = .ok (.goto 5, 3) := by decide +kernel
theorem zd312_126 : decode zxm312.2.1 126 = .ok (.iload 7, 2) := by decide +kernel
theorem zd312_128 : decode zxm312.2.1 128 = .ok (.ireturn, 1) := by decide +kernel
theorem zd312_129 : decode zxm312.2.1 129 = .ok (.iinc 6 1, 3) := by decide +kernel
theorem zd312_132 : decode zxm312.2.1 132 = .ok (.goto (-39), 3) := by decide +kernel
theorem zd312_135 : decode zxm312.2.1 135 = .ok (.bipush (-2), 2) := by decide +kernel
theorem zd312_137 : decode zxm312.2.1 137 = .ok (.ireturn, 1) := by decide +kernel
theorem zt_M_hidden {x1 : Int} {x2 : Int} {x3 : Int} {f0 : Int} {f1 : Int} {f2 : Int} {f3 : Int} {f4 : Int} {g0 : (Int → Int)} {g1 : (Int → Int)} {g2 : (Int → Int)} {g3 : (Int → Int)} {g4 : (Int → Int)} {g5 : (Int → Int)} {g6 : (Int → Int)} {g7 : (Int → Int)} {g8 : (Int → Int)} {g9 : (Int → Int)} {g10 : (Int → Int)} {g11 : (Int → Int)} {g12 : (Int → Int)} {o : Int × Int × Int × (Int → Int) × (Int → Int) × (Int → Int) × (Int → Int) × (Int → Int) × (Int → Int) × (Int → Int)} (h : zf_M_hidden x1 x2 x3 f0 f1 f2 f3 f4 g0 g1 g2 g3 g4 g5 g6 g7 g8 g9 g10 g11 g12 = some o) : zv_Fn z_TB z_cl z_KX zy_M_hidden zxm312 (8, 480) [.inr 0, .inl x1, .inl x2, .inl x3] [.inl f0, .inl f1, .inl f2, .inl f3, .inl f4] [g0, g1, g2, g3, g4, g5, g6, g7, g8, g9, g10, g11, g12] (some o.1) [.inl f0, .inl f1, .inl o.2.1, .inl o.2.2.1, .inl f4] [o.2.2.2.1, g1, o.2.2.2.2.1, g3, g4, g5, o.2.2.2.2.2.1, o.2.2.2.2.2.2.1, o.2.2.2.2.2.2.2.1, o.2.2.2.2.2.2.2.2.1, g10, g11, o.2.2.2.2.2.2.2.2.2] := zv_meth (K := (z_KF13, z_KC13, z_KL13, z_KT13, [], [], [], none)) (FT := z_FT) (MT := z_MT) (n := 4) zxp312 (z_ks13 _ (fun _ h => List.mem_cons_of_mem _ h) _ _ _ _ (fun j r h _ => by cases h)) (fun _ _ => zs_KX_p) zyw_M_hidden (fun va F G h => by obtain ⟨rfl, _⟩ := h; rfl) (fun va F G h => by obtain ⟨rfl, _⟩ := h; rfl) rfl fun good va F G hB hret hvret hP => by
  obtain ⟨rfl, rfl, rfl⟩ := hP
  have l0 : ∀ (n : Nat) (x3 : Int) (x4 : Int) (x5 : Int) (x6 : Int) (f2 : Int) (f3 : Int) (g0 : (Int → Int)) (g2 : (Int → Int)) (g6 : (Int → Int)) (g7 : (Int → Int)) (g8 : (Int → Int)) (g9 : (Int → Int)) (g12 : (Int → Int)) (q : Int), zf_M_hidden_l0 f2 g0 n x5 x6 = some q → (good 90 [.inr 0, .inr 1000, .inr 1000, .inl x3, .inl x4, .inl q, .inr 1000, .inr 1000] [] [.inl f0, .inl f1, .inl f2, .inl f3, .inl f4] [g0, g1, g2, g3, g4, g5, g6, g7, g8, g9, g10, g11, g12]) → good 52 [.inr 0, .inr 1000, .inr 1000, .inl x3, .inl x4, .inl x5, .inl x6, .inr 1000] [] [.inl f0, .inl f1, .inl f2, .inl f3, .inl f4] [g0, g1, g2, g3, g4, g5, g6, g7, g8, g9, g10, g11, g12] := by
    intro n
    induction n with
    | zero => intro x3 x4 x5 x6 f2 f3 g0 g2 g6 g7 g8 g9 g12 q h; exact absurd (show none = some q from h) (fun h => by cases h)
    | succ n ih =>
      intro x3 x4 x5 x6 f2 f3 g0 g2 g6 g7 g8 g9 g12 q h hK
      replace h : zf_M_hidden_l0_b f2 g0 (zf_M_hidden_l0 f2 g0 n) x5 x6 = some q := h
      unfold zf_M_hidden_l0_b at h
      refine zv_ild hB zd312_52 rfl rfl ?_
      refine zv_con hB zd312_54 rfl ?_
      refine zv_cge hB zd312_56 rfl (fun hc8 => ?_) (fun hc8 => ?_)
      · rw [if_neg (Int.not_lt.mpr hc8)] at h
        have hq := Option.some.inj h
        subst hq
        refine zv_wk hB (L' := [.inr 0, .inr 1000, .inr 1000, .inl x3, .inl x4, .inl x5, .inr 1000, .inr 1000]) (F' := [.inl f0, .inl f1, .inl f2, .inl f3, .inl f4]) ⟨fun _ => rfl, fun (h : zv_is (.inr 1000)) => (Nat.lt_irrefl 1000 h).elim, fun (h : zv_is (.inr 1000)) => (Nat.lt_irrefl 1000 h).elim, fun _ => rfl, fun _ => rfl, fun _ => rfl, fun (h : zv_is (.inr 1000)) => (Nat.lt_irrefl 1000 h).elim, fun (h : zv_is (.inr 1000)) => (Nat.lt_irrefl 1000 h).elim, trivial⟩ ⟨fun _ => rfl, fun _ => rfl, fun _ => rfl, fun _ => rfl, fun _ => rfl, trivial⟩ ?_
        exact hK
      · rw [if_pos hc8] at h
        refine zv_ald hB zd312_59 rfl rfl rfl ?_
        refine zv_getf hB zd312_60 rfl rfl (fun _ _ => ?_)
        refine zv_ild hB zd312_63 rfl rfl ?_
        obtain ⟨r9, hr9, h⟩ := zi_bind h
        refine zv_cs hB (zv_emq (va2 := [.inl f2, .inl x6]) (F := [.inl f0, .inl f1, .inl f2, .inl f3, .inl f4]) (F' := [.inl f0, .inl f1, .inl f2, .inl f3, .inl f4]) (G := [g0, g1, g2, g3, g4, g5, g6, g7, g8, g9, g10, g11, g12]) (G' := [g0, g1, g2, g3, g4, g5, g6, g7, g8, g9, g10, g11, g12]) (ρ := []) (φ := []) (ψ := []) [none, none, none, none, none] [none, none, none, none, none, none, none, none, none, none, none, none, none] zyw_M_has zyw_M_hidden zye_M_hidden (by decide +kernel) (zt_M_has hr9) trivial trivial rfl rfl rfl rfl rfl rfl rfl) zd312_65 zxt204 rfl (by decide) (by decide) rfl ?_
        refine zv_zeq hB zd312_68 rfl (fun hc10 => ?_) (fun hc10 => ?_)
        · rw [if_pos hc10] at h
          refine zv_iincw hB zd312_84 rfl rfl ?_
          refine zv_goto hB zd312_87 rfl ?_
          exact ih _ _ _ _ _ _ _ _ _ _ _ _ _ q h hK
        · rw [if_neg hc10] at h
          refine zv_ild hB zd312_71 rfl rfl ?_
          refine zv_con hB zd312_73 rfl ?_
          refine zv_ald hB zd312_74 rfl rfl rfl ?_
          refine zv_ild hB zd312_75 rfl rfl ?_
          obtain ⟨r11, hr11, h⟩ := zi_bind h
          refine zv_cv hB (zv_emq (va2 := [.inr 0, .inl x6]) (F := [.inl f0, .inl f1, .inl f2, .inl f3, .inl f4]) (F' := [.inl f0, .inl f1, .inl f2, .inl f3, .inl f4]) (G := [g0, g1, g2, g3, g4, g5, g6, g7, g8, g9, g10, g11, g12]) (G' := [g0, g1, g2, g3, g4, g5, g6, g7, g8, g9, g10, g11, g12]) (ρ := [0, 1]) (φ := []) (ψ := [0]) [none, none, none, none, none] [some 0, none, none, none, none, none, none, none, none, none, none, none, none] zyw_M_standsAt zyw_M_hidden zye_M_hidden (by decide +kernel) (zt_M_standsAt hr11) trivial ⟨rfl, trivial⟩ rfl rfl rfl rfl rfl rfl rfl) zd312_77 zxt238 rfl (by decide) (by decide) rfl ?_
          refine zv_shlw hB zd312_80 ?_
          refine zv_orw hB zd312_81 ?_
          refine zv_ist hB zd312_82 rfl rfl rfl ?_
          refine zv_iincw hB zd312_84 rfl rfl ?_
          refine zv_goto hB zd312_87 rfl ?_
          exact ih _ _ _ _ _ _ _ _ _ _ _ _ _ q h hK
  have l1 : ∀ (n : Nat) (x3 : Int) (x4 : Int) (x5 : Int) (x6 : Int) (f2 : Int) (f3 : Int) (g0 : (Int → Int)) (g2 : (Int → Int)) (g6 : (Int → Int)) (g7 : (Int → Int)) (g8 : (Int → Int)) (g9 : (Int → Int)) (g12 : (Int → Int)) (q : ((Int × Int × (Int → Int) × (Int → Int) × (Int → Int) × (Int → Int) × (Int → Int) × (Int → Int) × (Int → Int)) ⊕ (Int × Int × Int × (Int → Int) × (Int → Int) × (Int → Int) × (Int → Int) × (Int → Int) × (Int → Int) × (Int → Int)))), zf_M_hidden_l1 x3 x4 x5 f0 f1 f4 g1 g3 g4 g5 g10 g11 n x6 f2 f3 g0 g2 g6 g7 g8 g9 g12 = some q → (Sum.elim (fun e : Int × Int × (Int → Int) × (Int → Int) × (Int → Int) × (Int → Int) × (Int → Int) × (Int → Int) × (Int → Int) => good 135 [.inr 1000, .inr 1000, .inr 1000, .inr 1000, .inr 1000, .inr 1000, .inr 1000, .inr 1000] [] [.inl f0, .inl f1, .inl e.1, .inl e.2.1, .inl f4] [e.2.2.1, g1, e.2.2.2.1, g3, g4, g5, e.2.2.2.2.1, e.2.2.2.2.2.1, e.2.2.2.2.2.2.1, e.2.2.2.2.2.2.2.1, g10, g11, e.2.2.2.2.2.2.2.2]) (fun w : Int × Int × Int × (Int → Int) × (Int → Int) × (Int → Int) × (Int → Int) × (Int → Int) × (Int → Int) × (Int → Int) => w = o) q) → good 93 [.inr 0, .inr 1000, .inr 1000, .inl x3, .inl x4, .inl x5, .inl x6, .inr 1000] [] [.inl f0, .inl f1, .inl f2, .inl f3, .inl f4] [g0, g1, g2, g3, g4, g5, g6, g7, g8, g9, g10, g11, g12] := by
    intro n
    induction n with
    | zero => intro x3 x4 x5 x6 f2 f3 g0 g2 g6 g7 g8 g9 g12 q h; exact absurd (show none = some q from h) (fun h => by cases h)
    | succ n ih =>
      intro x3 x4 x5 x6 f2 f3 g0 g2 g6 g7 g8 g9 g12 q h hK
      replace h : zf_M_hidden_l1_b x3 x4 x5 f0 f1 f4 g1 g3 g4 g5 g10 g11 (zf_M_hidden_l1 x3 x4 x5 f0 f1 f4 g1 g3 g4 g5 g10 g11 n) x6 f2 f3 g0 g2 g6 g7 g8 g9 g12 = some q := h
      unfold zf_M_hidden_l1_b at h
      refine zv_ild hB zd312_93 rfl rfl ?_
      refine zv_con hB zd312_95 rfl ?_
      refine zv_cgt hB zd312_96 rfl (fun hc13 => ?_) (fun hc13 => ?_)
      · rw [if_pos hc13] at h
        have hq := Option.some.inj h
        subst hq
        refine zv_wk hB (L' := [.inr 1000, .inr 1000, .inr 1000, .inr 1000, .inr 1000, .inr 1000, .inr 1000, .inr 1000]) (F' := [.inl f0, .inl f1, .inl f2, .inl f3, .inl f4]) ⟨fun (h : zv_is (.inr 1000)) => (Nat.lt_irrefl 1000 h).elim, fun (h : zv_is (.inr 1000)) => (Nat.lt_irrefl 1000 h).elim, fun (h : zv_is (.inr 1000)) => (Nat.lt_irrefl 1000 h).elim, fun (h : zv_is (.inr 1000)) => (Nat.lt_irrefl 1000 h).elim, fun (h : zv_is (.inr 1000)) => (Nat.lt_irrefl 1000 h).elim, fun (h : zv_is (.inr 1000)) => (Nat.lt_irrefl 1000 h).elim, fun (h : zv_is (.inr 1000)) => (Nat.lt_irrefl 1000 h).elim, fun (h : zv_is (.inr 1000)) => (Nat.lt_irrefl 1000 h).elim, trivial⟩ ⟨fun _ => rfl, fun _ => rfl, fun _ => rfl, fun _ => rfl, fun _ => rfl, trivial⟩ ?_
        exact hK
      · rw [if_neg (Int.not_lt.mpr hc13)] at h
        refine zv_ald hB zd312_99 rfl rfl rfl ?_
        refine zv_ild hB zd312_100 rfl rfl ?_
        refine zv_ild hB zd312_102 rfl rfl ?_
        refine zv_ild hB zd312_104 rfl rfl ?_
        obtain ⟨r14, hr14, h⟩ := zi_bind h
        refine zv_cv hB (zv_emq (va2 := [.inr 0, .inl x4, .inl x6, .inl x5]) (F := [.inl f0, .inl f1, .inl f2, .inl f3, .inl f4]) (F' := [.inl f0, .inl f1, .inl r14.2.1, .inl r14.2.2.1, .inl f4]) (G := [g0, g1, g2, g3, g4, g5, g6, g7, g8, g9, g10, g11, g12]) (G' := [r14.2.2.2.1, g1, r14.2.2.2.2.1, g3, g4, g5, r14.2.2.2.2.2.1, r14.2.2.2.2.2.2.1, r14.2.2.2.2.2.2.2.1, r14.2.2.2.2.2.2.2.2.1, g10, g11, r14.2.2.2.2.2.2.2.2.2]) (ρ := [0, 1, 2, 3, 4, 5, 6, 7, 8, 9, 10, 11, 12, 13]) (φ := [1, 2, 3, 4, 0]) (ψ := [0, 1, 2, 3, 4, 5, 6, 7, 8, 9, 10, 11, 12]) [some 4, some 0, some 1, some 2, some 3] [some 0, some 1, some 2, some 3, some 4, some 5, some 6, some 7, some 8, some 9, some 10, some 11, some 12] zyw_M_leastClouds zyw_M_hidden zye_M_hidden (by decide +kernel) (zt_M_leastClouds hr14) ⟨⟨_, rfl, fun _ => rfl⟩, ⟨_, rfl, fun _ => rfl⟩, ⟨_, rfl, fun _ => rfl⟩, ⟨_, rfl, fun _ => rfl⟩, ⟨_, rfl, fun _ => rfl⟩, trivial⟩ ⟨rfl, rfl, rfl, rfl, rfl, rfl, rfl, rfl, rfl, rfl, rfl, rfl, rfl, trivial⟩ rfl rfl rfl rfl rfl rfl rfl) zd312_106 zxt313 rfl (by decide) (by decide) rfl ?_
        refine zv_ist hB zd312_109 rfl rfl rfl ?_
        refine zv_ild hB zd312_111 rfl rfl ?_
        refine zv_con hB zd312_113 rfl ?_
        refine zv_ceq hB zd312_114 rfl (fun hc15 => ?_) (fun hc15 => ?_)
        · rw [if_pos hc15] at h
          refine zv_iincw hB zd312_129 rfl rfl ?_
          refine zv_goto hB zd312_132 rfl ?_
          refine zv_wk hB (L' := [.inr 0, .inr 1000, .inr 1000, .inl x3, .inl x4, .inl x5, .inl (zi_w (x6 + 1)), .inr 1000]) (F' := [.inl f0, .inl f1, .inl r14.2.1, .inl r14.2.2.1, .inl f4]) ⟨fun _ => rfl, fun (h : zv_is (.inr 1000)) => (Nat.lt_irrefl 1000 h).elim, fun (h : zv_is (.inr 1000)) => (Nat.lt_irrefl 1000 h).elim, fun _ => rfl, fun _ => rfl, fun _ => rfl, fun _ => rfl, fun (h : zv_is (.inr 1000)) => (Nat.lt_irrefl 1000 h).elim, trivial⟩ ⟨fun _ => rfl, fun _ => rfl, fun _ => rfl, fun _ => rfl, fun _ => rfl, trivial⟩ ?_
          exact ih _ _ _ _ _ _ _ _ _ _ _ _ _ q h hK
        · rw [if_neg hc15] at h
          refine zv_ild hB zd312_117 rfl rfl ?_
          refine zv_zne hB zd312_118 rfl (fun hc16 => ?_) (fun hc16 => ?_)
          · rw [if_neg hc16] at h
            refine zv_ild hB zd312_126 rfl rfl ?_
            have hw : (r14.1, r14.2.1, r14.2.2.1, r14.2.2.2.1, r14.2.2.2.2.1, r14.2.2.2.2.2.1, r14.2.2.2.2.2.2.1, r14.2.2.2.2.2.2.2.1, r14.2.2.2.2.2.2.2.2.1, r14.2.2.2.2.2.2.2.2.2) = o := zi_rk (Option.some.inj h) hK
            subst hw
            exact hret _ _ _ _ _ zd312_128 (by trivial) ⟨rfl, rfl, rfl⟩
          · rw [if_pos hc16] at h
            refine zv_ild hB zd312_121 rfl rfl ?_
            refine zv_goto hB zd312_123 rfl ?_
            have hw : (x6, r14.2.1, r14.2.2.1, r14.2.2.2.1, r14.2.2.2.2.1, r14.2.2.2.2.2.1, r14.2.2.2.2.2.2.1, r14.2.2.2.2.2.2.2.1, r14.2.2.2.2.2.2.2.2.1, r14.2.2.2.2.2.2.2.2.2) = o := zi_rk (Option.some.inj h) hK
            subst hw
            exact hret _ _ _ _ _ zd312_128 (by trivial) ⟨rfl, rfl, rfl⟩
  unfold zf_M_hidden at h
  refine zv_ild hB zd312_0 rfl rfl ?_
  refine zv_ild hB zd312_1 rfl rfl ?_
  obtain ⟨r1, hr1, h⟩ := zi_bind h
  refine zv_cs hB (zv_emq (va2 := [.inl x1, .inl x2]) (F := [.inl f0, .inl f1, .inl f2, .inl f3, .inl f4]) (F' := [.inl f0, .inl f1, .inl f2, .inl f3, .inl f4]) (G := [g0, g1, g2, g3, g4, g5, g6, g7, g8, g9, g10, g11, g12]) (G' := [g0, g1, g2, g3, g4, g5, g6, g7, g8, g9, g10, g11, g12]) (ρ := []) (φ := []) (ψ := []) [none, none, none, none, none] [none, none, none, none, none, none, none, none, none, none, none, none, none] zyw_M_isPlace zyw_M_hidden zye_M_hidden (by decide +kernel) (zt_M_isPlace hr1) trivial trivial rfl rfl rfl rfl rfl rfl rfl) zd312_2 zxt201 rfl (by decide) (by decide) rfl ?_
  refine zv_zeq hB zd312_5 rfl (fun hc2 => ?_) (fun hc2 => ?_)
  · rw [if_pos hc2] at h
    refine zv_con hB zd312_24 rfl ?_
    have hw := Option.some.inj h
    subst hw
    exact hret _ _ _ _ _ zd312_25 (by trivial) ⟨rfl, rfl, rfl⟩
  · rw [if_neg hc2] at h
    refine zv_ild hB zd312_8 rfl rfl ?_
    refine zv_con hB zd312_9 rfl ?_
    refine zv_con hB zd312_10 rfl ?_
    obtain ⟨r3, hr3, h⟩ := zi_bind h
    refine zv_cs hB (zv_emq (va2 := [.inl x3, .inl 0, .inl 1]) (F := [.inl f0, .inl f1, .inl f2, .inl f3, .inl f4]) (F' := [.inl f0, .inl f1, .inl f2, .inl f3, .inl f4]) (G := [g0, g1, g2, g3, g4, g5, g6, g7, g8, g9, g10, g11, g12]) (G' := [g0, g1, g2, g3, g4, g5, g6, g7, g8, g9, g10, g11, g12]) (ρ := []) (φ := []) (ψ := []) [none, none, none, none, none] [none, none, none, none, none, none, none, none, none, none, none, none, none] zyw_M_in zyw_M_hidden zye_M_hidden (by decide +kernel) (zt_M_in hr3) trivial trivial rfl rfl rfl rfl rfl rfl rfl) zd312_11 zxt200 rfl (by decide) (by decide) rfl ?_
    refine zv_zeq hB zd312_14 rfl (fun hc4 => ?_) (fun hc4 => ?_)
    · rw [if_pos hc4] at h
      refine zv_con hB zd312_24 rfl ?_
      have hw := Option.some.inj h
      subst hw
      exact hret _ _ _ _ _ zd312_25 (by trivial) ⟨rfl, rfl, rfl⟩
    · rw [if_neg hc4] at h
      refine zv_ald hB zd312_17 rfl rfl rfl ?_
      refine zv_getf hB zd312_18 rfl rfl (fun _ _ => ?_)
      refine zv_zne hB zd312_21 rfl (fun hc5 => ?_) (fun hc5 => ?_)
      · rw [if_neg hc5] at h
        refine zv_con hB zd312_26 rfl ?_
        refine zv_ild hB zd312_28 rfl rfl ?_
        refine zv_mulw hB zd312_29 ?_
        refine zv_ild hB zd312_30 rfl rfl ?_
        refine zv_addw hB zd312_31 ?_
        refine zv_ist hB zd312_32 rfl rfl rfl ?_
        refine zv_ald hB zd312_34 rfl rfl rfl ?_
        refine zv_ild hB zd312_35 rfl rfl ?_
        obtain ⟨r6, hr6, h⟩ := zi_bind h
        refine zv_cv hB (zv_emq (va2 := [.inr 0, .inl (zi_w ((zi_w (24 * x2)) + x1))]) (F := [.inl f0, .inl f1, .inl f2, .inl f3, .inl f4]) (F' := [.inl f0, .inl f1, .inl r6.2.1, .inl r6.2.2.1, .inl f4]) (G := [g0, g1, g2, g3, g4, g5, g6, g7, g8, g9, g10, g11, g12]) (G' := [g0, g1, r6.2.2.2.1, g3, g4, g5, r6.2.2.2.2.1, r6.2.2.2.2.2.1, r6.2.2.2.2.2.2.1, r6.2.2.2.2.2.2.2.1, g10, g11, r6.2.2.2.2.2.2.2.2]) (ρ := [0, 1, 2, 3, 4, 5, 6, 7, 8, 9, 10, 11, 12, 13]) (φ := [1, 2, 3, 4, 0]) (ψ := [0, 1, 2, 3, 4, 5, 6, 7, 8, 9, 10, 11, 12]) [some 4, some 0, some 1, some 2, some 3] [some 0, some 1, some 2, some 3, some 4, some 5, some 6, some 7, some 8, some 9, some 10, some 11, some 12] zyw_M_canBeTold zyw_M_hidden zye_M_hidden (by decide +kernel) (zt_M_canBeTold hr6) ⟨⟨_, rfl, fun _ => rfl⟩, ⟨_, rfl, fun _ => rfl⟩, ⟨_, rfl, fun _ => rfl⟩, ⟨_, rfl, fun _ => rfl⟩, ⟨_, rfl, fun _ => rfl⟩, trivial⟩ ⟨rfl, rfl, rfl, rfl, rfl, rfl, rfl, rfl, rfl, rfl, rfl, rfl, rfl, trivial⟩ rfl rfl rfl rfl rfl rfl rfl) zd312_37 zxt272 rfl (by decide) (by decide) rfl ?_
        refine zv_zne hB zd312_40 rfl (fun hc7 => ?_) (fun hc7 => ?_)
        · rw [if_neg hc7] at h
          refine zv_con hB zd312_46 rfl ?_
          refine zv_ist hB zd312_47 rfl rfl rfl ?_
          refine zv_con hB zd312_49 rfl ?_
          refine zv_ist hB zd312_50 rfl rfl rfl ?_
          obtain ⟨q12, hq12, h⟩ := zi_bind h
          refine zv_wk hB (L' := [.inr 0, .inr 1000, .inr 1000, .inl x3, .inl (zi_w ((zi_w (24 * x2)) + x1)), .inl 0, .inl 0, .inr 1000]) (F' := [.inl f0, .inl f1, .inl r6.2.1, .inl r6.2.2.1, .inl f4]) ⟨fun _ => rfl, fun (h : zv_is (.inr 1000)) => (Nat.lt_irrefl 1000 h).elim, fun (h : zv_is (.inr 1000)) => (Nat.lt_irrefl 1000 h).elim, fun _ => rfl, fun _ => rfl, fun _ => rfl, fun _ => rfl, fun (h : zv_is (.inr 1000)) => (Nat.lt_irrefl 1000 h).elim, trivial⟩ ⟨fun _ => rfl, fun _ => rfl, fun _ => rfl, fun _ => rfl, fun _ => rfl, trivial⟩ ?_
          refine l0 _ _ _ _ _ _ _ _ _ _ _ _ _ _ q12 hq12 ?_
          show good 90 [.inr 0, .inr 1000, .inr 1000, .inl x3, .inl (zi_w ((zi_w (24 * x2)) + x1)), .inl q12, .inr 1000, .inr 1000] [] [.inl f0, .inl f1, .inl r6.2.1, .inl r6.2.2.1, .inl f4] [g0, g1, r6.2.2.2.1, g3, g4, g5, r6.2.2.2.2.1, r6.2.2.2.2.2.1, r6.2.2.2.2.2.2.1, r6.2.2.2.2.2.2.2.1, g10, g11, r6.2.2.2.2.2.2.2.2]
          refine zv_con hB zd312_90 rfl ?_
          refine zv_ist hB zd312_91 rfl rfl rfl ?_
          obtain ⟨q17, hq17, h⟩ := zi_bind h
          refine l1 _ _ _ _ _ _ _ _ _ _ _ _ _ _ q17 hq17 ?_
          rcases q17 with e18 | w19
          · replace h := zi_sl h
            show good 135 [.inr 1000, .inr 1000, .inr 1000, .inr 1000, .inr 1000, .inr 1000, .inr 1000, .inr 1000] [] [.inl f0, .inl f1, .inl e18.1, .inl e18.2.1, .inl f4] [e18.2.2.1, g1, e18.2.2.2.1, g3, g4, g5, e18.2.2.2.2.1, e18.2.2.2.2.2.1, e18.2.2.2.2.2.2.1, e18.2.2.2.2.2.2.2.1, g10, g11, e18.2.2.2.2.2.2.2.2]
            refine zv_con hB zd312_135 rfl ?_
            have hw := Option.some.inj h
            subst hw
            exact hret _ _ _ _ _ zd312_137 (by trivial) ⟨rfl, rfl, rfl⟩
          · exact Option.some.inj h
        · rw [if_pos hc7] at h
          refine zv_con hB zd312_43 rfl ?_
          have hw := Option.some.inj h
          subst hw
          exact hret _ _ _ _ _ zd312_45 (by trivial) ⟨rfl, rfl, rfl⟩
      · rw [if_pos hc5] at h
        refine zv_con hB zd312_24 rfl ?_
        have hw := Option.some.inj h
        subst hw
        exact hret _ _ _ _ _ zd312_25 (by trivial) ⟨rfl, rfl, rfl⟩
end
section
/-! Methods as functions, and that they do what these do. -/
/-! M_takesLog (I)Z -/
-- names: 0 StarTalesModel('arg', 0), 1 (0, 12)(0, 12, 60), 2 (1, 220)(0, 12, 3), 3 (0, 12)(0, 12, 61)
-- fields: ; arrays: g0 = 1, g1 = 2, g2 = 3; out: [('ret', None), ('g', 0), ('g', 2)]
abbrev zy_M_takesLog : zNL := (4, [(0, 12)], [], [(0, 12, 60, 1), (0, 12, 3, 2), (0, 12, 61, 3)], [(1, 0, 12, 0), (2, 1, 220, 1), (3, 0, 12, 2)])
theorem zyw_M_takesLog : zv_wf zy_M_takesLog = true := by decide +kernel
theorem zye_M_takesLog : zv_ek2 zy_M_takesLog = true := by decide +kernel
def zf_M_takesLog_l0_b (x1 : Int) (g1 : (Int → Int)) (rec : Int → (Int → Int) → (Int → Int) → Option ((((Int → Int) × (Int → Int)) ⊕ (Int × (Int → Int) × (Int → Int))))) (x2 : Int) (g0 : (Int → Int)) (g2 : (Int → Int)) : Option ((((Int → Int) × (Int → Int)) ⊕ (Int × (Int → Int) × (Int → Int)))) := if x2 < x1 then (cond (zi_ix (zi_w (2 * x2)) 220) (cond (zi_ix x2 12) (cond (zi_ix (zi_w ((zi_w (2 * x2)) + 1)) 220) (if 1 < ((zv_up g0 x2 (zi_and (g1 (zi_w (2 * x2))) 255)) x2) then (some (.inr (0, (zv_up g0 x2 (zi_and (g1 (zi_w (2 * x2))) 255)), (zv_up g2 x2 (zi_and (g1 (zi_w ((zi_w (2 * x2)) + 1))) 255))))) else (if (zi_w (x2 + 1)) < x1 then (if 4 < ((zv_up g2 x2 (zi_and (g1 (zi_w ((zi_w (2 * x2)) + 1))) 255)) x2) then (some (.inr (0, (zv_up g0 x2 (zi_and (g1 (zi_w (2 * x2))) 255)), (zv_up g2 x2 (zi_and (g1 (zi_w ((zi_w (2 * x2)) + 1))) 255))))) else (rec (zi_w (x2 + 1)) (zv_up g0 x2 (zi_and (g1 (zi_w (2 * x2))) 255)) (zv_up g2 x2 (zi_and (g1 (zi_w ((zi_w (2 * x2)) + 1))) 255)))) else (rec (zi_w (x2 + 1)) (zv_up g0 x2 (zi_and (g1 (zi_w (2 * x2))) 255)) (zv_up g2 x2 (zi_and (g1 (zi_w ((zi_w (2 * x2)) + 1))) 255))))) none) none) none) else (some (.inl (g0, g2)))
def zf_M_takesLog_l0 (x1 : Int) (g1 : (Int → Int)) : Nat → Int → (Int → Int) → (Int → Int) → Option ((((Int → Int) × (Int → Int)) ⊕ (Int × (Int → Int) × (Int → Int))))
  | 0, _, _, _ => none
  | n + 1, x2, g0, g2 => zf_M_takesLog_l0_b x1 g1 (zf_M_takesLog_l0 x1 g1 n) x2 g0 g2
def zf_M_takesLog (x1 : Int) (g0 : (Int → Int)) (g1 : (Int → Int)) (g2 : (Int → Int)) : Option (Int × (Int → Int) × (Int → Int)) := (zf_M_takesLog_l0 x1 g1 zi_fu 0 g0 g2).bind fun q8 => Sum.elim (fun e9 => (some (1, e9.1, e9.2))) (fun w10 => some w10) q8
theorem zd315_0 : decode zxm315.2.1 0 = .ok (.iconst 0, 1) := by decide +kernel
theorem zd315_1 : decode zxm315.2.1 1 = .ok (.istore_n 2, 1) := by decide +kernel
theorem zd315_2 : decode zxm315.2.1 2 = .ok (.iload_n 2, 1) := by decide +kernel
theorem zd315_3 : decode zxm315.2.1 3 = .ok (.iload_n 1, 1) := by decide +kernel
theorem zd315_4 : decode zxm315.2.1 4 = .ok (.if_icmp .ge 76, 3) := by decide +kernel
theorem zd315_7 : decode zxm315.2.1 7 = .ok (.aload_n 0, 1) := by decide +kernel
theorem zd315_8 : decode zxm315.2.1 8 = .ok (.getfield 125, 3) := by decide +kernel
theorem zd315_11 : decode zxm315.2.1 11 = .ok (.iload_n 2, 1) := by decide +kernel
theorem zd315_12 : decode zxm315.2.1 12 = .ok (.aload_n 0, 1) := by decide +kernel
theorem zd315_13 : decode zxm315.2.1 13 = .ok (.getfield 19, 3) := by decide +kernel
theorem zd315_16 : decode zxm315.2.1 16 = .ok (.iconst 2, 1) := by decide +kernel
theorem zd315_17 : decode zxm315.2.1 17 = .ok (.iload_n 2, 1) := by decide +kernel
theorem zd315_18 : decode zxm315.2.1 18 = .ok (.imul, 1) := by decide +kernel
theorem zd315_19 : decode zxm315.2.1 19 = .ok (.baload, 1) := by decide +kernel
theorem zd315_20 : decode zxm315.2.1 20 = .ok (.sipush 255, 3) := by decide +kernel
theorem zd315_23 : decode zxm315.2.1 23 = .ok (.iand, 1) := by decide +kernel
theorem zd315_24 : decode zxm315.2.1 24 = .ok (.iastore, 1) := by decide +kernel
theorem zd315_25 : decode zxm315.2.1 25 = .ok (.aload_n 0, 1) := by decide +kernel
theorem zd315_26 : decode zxm315.2.1 26 = .ok (.getfield 128, 3) := by decide +kernel
theorem zd315_29 : decode zxm315.2.1 29 = .ok (.iload_n 2, 1) := by decide +kernel
theorem zd315_30 : decode zxm315.2.1 30 = .ok (.aload_n 0, 1) := by decide +kernel
theorem zd315_31 : decode zxm315.2.1 31 = .ok (.getfield 19, 3) := by decide +kernel
theorem zd315_34 : decode zxm315.2.1 34 = .ok (.iconst 2, 1) := by decide +kernel
theorem zd315_35 : decode zxm315.2.1 35 = .ok (.iload_n 2, 1) := by decide +kernel
theorem zd315_36 : decode zxm315.2.1 36 = .ok (.imul, 1) := by decide +kernel
theorem zd315_37 : decode zxm315.2.1 37 = .ok (.iconst 1, 1) := by decide +kernel
theorem zd315_38 : decode zxm315.2.1 38 = .ok (.iadd, 1) := by decide +kernel
theorem zd315_39 : decode zxm315.2.1 39 = .ok (.baload, 1) := by decide +kernel
theorem zd315_40 : decode zxm315.2.1 40 = .ok (.sipush 255, 3) := by decide +kernel
theorem zd315_43 : decode zxm315.2.1 43 = .ok (.iand, 1) := by decide +kernel
theorem zd315_44 : decode zxm315.2.1 44 = .ok (.iastore, 1) := by decide +kernel
theorem zd315_45 : decode zxm315.2.1 45 = .ok (.aload_n 0, 1) := by decide +kernel
theorem zd315_46 : decode zxm315.2.1 46 = .ok (.getfield 125, 3) := by decide +kernel
theorem zd315_49 : decode zxm315.2.1 49 = .ok (.iload_n 2, 1) := by decide +kernel
theorem zd315_50 : decode zxm315.2.1 50 = .ok (.iaload, 1) := by decide +kernel
theorem zd315_51 : decode zxm315.2.1 51 = .ok (.iconst 1, 1) := by decide +kernel
theorem zd315_52 : decode zxm315.2.1 52 = .ok (.if_icmp .gt 20, 3) := by decide +kernel
theorem zd315_55 : decode zxm315.2.1 55 = .ok (.iload_n 2, 1) := by decide +kernel
theorem zd315_56 : decode zxm315.2.1 56 = .ok (.iconst 1, 1) := by decide +kernel
theorem zd315_57 : decode zxm315.2.1 57 = .ok (.iadd, 1) := by decide +kernel
theorem zd315_58 : decode zxm315.2.1 58 = .ok (.iload_n 1, 1) := by decide +kernel
theorem zd315_59 : decode zxm315.2.1 59 = .ok (.if_icmp .ge 15, 3) := by decide +kernel
theorem zd315_62 : decode zxm315.2.1 62 = .ok (.aload_n 0, 1) := by decide +kernel
theorem zd315_63 : decode zxm315.2.1 63 = .ok (.getfield 128, 3) := by decide +kernel
theorem zd315_66 : decode zxm315.2.1 66 = .ok (.iload_n 2, 1) := by decide +kernel
theorem zd315_67 : decode zxm315.2.1 67 = .ok (.iaload, 1) := by decide +kernel
theorem zd315_68 : decode zxm315.2.1 68 = .ok (.iconst 4, 1) := by decide +kernel
theorem zd315_69 : decode zxm315.2.1 69 = .ok (.if_icmp .le 5, 3) := by decide +kernel
theorem zd315_72 : decode zxm315.2.1 72 = .ok (.iconst 0, 1) := by decide +kernel
theorem zd315_73 : decode zxm315.2.1 73 = .ok (.ireturn, 1) := by decide +kernel
theorem zd315_74 : decode zxm315.2.1 74 = .ok (.iinc 2 1, 3) := by decide +kernel
theorem zd315_77 : decode zxm315.2.1 77 = .ok (.goto (-75), 3) := by decide +kernel
theorem zd315_80 : decode zxm315.2.1 80 = .ok (.iconst 1, 1) := by decide +kernel
theorem zd315_81 : decode zxm315.2.1 81 = .ok (.ireturn, 1) := by decide +kernel
theorem zt_M_takesLog {x1 : Int} {g0 : (Int → Int)} {g1 : (Int → Int)} {g2 : (Int → Int)} {o : Int × (Int → Int) × (Int → Int)} (h : zf_M_takesLog x1 g0 g1 g2 = some o) : zv_Fn z_TB z_cl z_KX zy_M_takesLog zxm315 (0, 0) [.inr 0, .inl x1] [] [g0, g1, g2] (some o.1) [] [o.2.1, g1, o.2.2] := zv_meth (K := (z_KF13, z_KC13, z_KL13, z_KT13, [], [], [], none)) (FT := z_FT) (MT := z_MT) (n := 2) zxp315 (z_ks13 _ (fun _ h => List.mem_cons_of_mem _ h) _ _ _ _ (fun j r h _ => by cases h)) (fun _ _ => zs_KX_p) zyw_M_takesLog (fun va F G h => by obtain ⟨rfl, _⟩ := h; rfl) (fun va F G h => by obtain ⟨rfl, _⟩ := h; rfl) rfl fun good va F G hB hret hvret hP => by
  obtain ⟨rfl, rfl, rfl⟩ := hP
  have l0 : ∀ (n : Nat) (x1 : Int) (x2 : Int) (g0 : (Int → Int)) (g2 : (Int → Int)) (q : (((Int → Int) × (Int → Int)) ⊕ (Int × (Int → Int) × (Int → Int)))), zf_M_takesLog_l0 x1 g1 n x2 g0 g2 = some q → (Sum.elim (fun e : (Int → Int) × (Int → Int) => good 80 [.inr 1000, .inr 1000, .inr 1000] [] [] [e.1, g1, e.2]) (fun w : Int × (Int → Int) × (Int → Int) => w = o) q) → good 2 [.inr 0, .inl x1, .inl x2] [] [] [g0, g1, g2] := by
    intro n
    induction n with
    | zero => intro x1 x2 g0 g2 q h; exact absurd (show none = some q from h) (fun h => by cases h)
    | succ n ih =>
      intro x1 x2 g0 g2 q h hK
      replace h : zf_M_takesLog_l0_b x1 g1 (zf_M_takesLog_l0 x1 g1 n) x2 g0 g2 = some q := h
      unfold zf_M_takesLog_l0_b at h
      refine zv_ild hB zd315_2 rfl rfl ?_
      refine zv_ild hB zd315_3 rfl rfl ?_
      refine zv_cge hB zd315_4 rfl (fun hc1 => ?_) (fun hc1 => ?_)
      · rw [if_neg (Int.not_lt.mpr hc1)] at h
        have hq := Option.some.inj h
        subst hq
        refine zv_wk hB (L' := [.inr 1000, .inr 1000, .inr 1000]) (F' := []) ⟨fun (h : zv_is (.inr 1000)) => (Nat.lt_irrefl 1000 h).elim, fun (h : zv_is (.inr 1000)) => (Nat.lt_irrefl 1000 h).elim, fun (h : zv_is (.inr 1000)) => (Nat.lt_irrefl 1000 h).elim, trivial⟩ trivial ?_
        exact hK
      · rw [if_pos hc1] at h
        refine zv_ald hB zd315_7 rfl rfl rfl ?_
        refine zv_getr hB zd315_8 rfl ?_
        refine zv_ild hB zd315_11 rfl rfl ?_
        refine zv_ald hB zd315_12 rfl rfl rfl ?_
        refine zv_getr hB zd315_13 rfl ?_
        refine zv_con hB zd315_16 rfl ?_
        refine zv_ild hB zd315_17 rfl rfl ?_
        refine zv_mulw hB zd315_18 ?_
        obtain ⟨c2, h⟩ := zi_if h
        refine zv_bald hB zd315_19 rfl rfl (zi_ix_ok c2).1 (zi_ix_ok c2).2 (fun _ _ => ?_)
        refine zv_con hB zd315_20 rfl ?_
        refine zv_andw hB zd315_23 ?_
        obtain ⟨c3, h⟩ := zi_if h
        refine zv_iast hB zd315_24 rfl rfl (zi_ix_ok c3).1 (zi_ix_ok c3).2 ?_
        refine zv_ald hB zd315_25 rfl rfl rfl ?_
        refine zv_getr hB zd315_26 rfl ?_
        refine zv_ild hB zd315_29 rfl rfl ?_
        refine zv_ald hB zd315_30 rfl rfl rfl ?_
        refine zv_getr hB zd315_31 rfl ?_
        refine zv_con hB zd315_34 rfl ?_
        refine zv_ild hB zd315_35 rfl rfl ?_
        refine zv_mulw hB zd315_36 ?_
        refine zv_con hB zd315_37 rfl ?_
        refine zv_addw hB zd315_38 ?_
        obtain ⟨c4, h⟩ := zi_if h
        refine zv_bald hB zd315_39 rfl rfl (zi_ix_ok c4).1 (zi_ix_ok c4).2 (fun _ _ => ?_)
        refine zv_con hB zd315_40 rfl ?_
        refine zv_andw hB zd315_43 ?_
        refine zv_iast hB zd315_44 rfl rfl (zi_ix_ok c3).1 (zi_ix_ok c3).2 ?_
        refine zv_ald hB zd315_45 rfl rfl rfl ?_
        refine zv_getr hB zd315_46 rfl ?_
        refine zv_ild hB zd315_49 rfl rfl ?_
        refine zv_iald hB zd315_50 rfl rfl (zi_ix_ok c3).1 (zi_ix_ok c3).2 (fun _ _ => ?_)
        refine zv_con hB zd315_51 rfl ?_
        refine zv_cgt hB zd315_52 rfl (fun hc5 => ?_) (fun hc5 => ?_)
        · rw [if_pos hc5] at h
          refine zv_con hB zd315_72 rfl ?_
          have hw : (0, (zv_up g0 x2 (zi_and (g1 (zi_w (2 * x2))) 255)), (zv_up g2 x2 (zi_and (g1 (zi_w ((zi_w (2 * x2)) + 1))) 255))) = o := zi_rk (Option.some.inj h) hK
          subst hw
          exact hret _ _ _ _ _ zd315_73 (by constructor <;> decide) ⟨rfl, rfl, rfl⟩
        · rw [if_neg (Int.not_lt.mpr hc5)] at h
          refine zv_ild hB zd315_55 rfl rfl ?_
          refine zv_con hB zd315_56 rfl ?_
          refine zv_addw hB zd315_57 ?_
          refine zv_ild hB zd315_58 rfl rfl ?_
          refine zv_cge hB zd315_59 rfl (fun hc6 => ?_) (fun hc6 => ?_)
          · rw [if_neg (Int.not_lt.mpr hc6)] at h
            refine zv_iincw hB zd315_74 rfl rfl ?_
            refine zv_goto hB zd315_77 rfl ?_
            exact ih _ _ _ _ q h hK
          · rw [if_pos hc6] at h
            refine zv_ald hB zd315_62 rfl rfl rfl ?_
            refine zv_getr hB zd315_63 rfl ?_
            refine zv_ild hB zd315_66 rfl rfl ?_
            refine zv_iald hB zd315_67 rfl rfl (zi_ix_ok c3).1 (zi_ix_ok c3).2 (fun _ _ => ?_)
            refine zv_con hB zd315_68 rfl ?_
            refine zv_cle hB zd315_69 rfl (fun hc7 => ?_) (fun hc7 => ?_)
            · rw [if_neg (Int.not_lt.mpr hc7)] at h
              refine zv_iincw hB zd315_74 rfl rfl ?_
              refine zv_goto hB zd315_77 rfl ?_
              exact ih _ _ _ _ q h hK
            · rw [if_pos hc7] at h
              refine zv_con hB zd315_72 rfl ?_
              have hw : (0, (zv_up g0 x2 (zi_and (g1 (zi_w (2 * x2))) 255)), (zv_up g2 x2 (zi_and (g1 (zi_w ((zi_w (2 * x2)) + 1))) 255))) = o := zi_rk (Option.some.inj h) hK
              subst hw
              exact hret _ _ _ _ _ zd315_73 (by constructor <;> decide) ⟨rfl, rfl, rfl⟩
  unfold zf_M_takesLog at h
  refine zv_con hB zd315_0 rfl ?_
  refine zv_ist hB zd315_1 rfl rfl rfl ?_
  obtain ⟨q8, hq8, h⟩ := zi_bind h
  refine l0 _ _ _ _ _ q8 hq8 ?_
  rcases q8 with e9 | w10
  · replace h := zi_sl h
    show good 80 [.inr 1000, .inr 1000, .inr 1000] [] [] [e9.1, g1, e9.2]
    refine zv_con hB zd315_80 rfl ?_
    have hw := Option.some.inj h
    subst hw
    exact hret _ _ _ _ _ zd315_81 (by constructor <;> decide) ⟨rfl, rfl, rfl⟩
  · exact Option.some.inj h
end
section
/-! Methods as functions, and that they do what these do. -/
/-! M_log (II)I -/
-- names: 0 StarTalesModel('arg', 0), 1 (0, 12)(0, 12, 60), 2 (1, 220)(0, 12, 3), 3 (0, 12)(0, 12, 61), 4 (0, 288)(0, 12, 62), 5 (0, 422)(0, 12, 0), 6 (0, 422)(0, 12, 1), 7 (0, 14)(0, 12, 21), 8 (0, 13)(0, 12, 26), 9 (0, 14)(0, 12, 23), 10 (0, 14)(0, 12, 24), 11 (0, 220)(0, 12, 20), 12 (0, 220)(0, 12, 25), 13 (0, 24)(0, 12, 28), 14 (0, 8)(0, 12, 38), 15 (0, 8)(0, 12, 39), 16 (0, 12)(0, 12, 34), 17 (0, 12)(0, 12, 35), 18 (0, 8)(0, 12, 40)
-- fields: f0 = 0.taleLines_, f1 = 0.taped_, f2 = 0.clauses_, f3 = 0.seen0_, f4 = 0.nameMany_, f5 = 0.namesIn_; arrays: g0 = 1, g1 = 2, g2 = 3, g3 = 4, g4 = 5, g5 = 6, g6 = 7, g7 = 8, g8 = 9, g9 = 10, g10 = 11, g11 = 12, g12 = 13, g13 = 14, g14 = 15, g15 = 16, g16 = 17, g17 = 18; out: [('ret', None), ('f', 1), ('f', 3), ('f', 4), ('g', 0), ('g', 2), ('g', 3), ('g', 4), ('g', 5), ('g', 7), ('g', 11), ('g', 12), ('g', 13), ('g', 14), ('g', 17)]
abbrev zy_M_log : zNL := (19, [(0, 12)], [(0, 12, 31, 0), (0, 12, 4, 1), (0, 12, 13, 2), (0, 12, 27, 3), (0, 12, 41, 4), (0, 12, 33, 5)], [(0, 12, 60, 1), (0, 12, 3, 2), (0, 12, 61, 3), (0, 12, 62, 4), (0, 12, 0, 5), (0, 12, 1, 6), (0, 12, 21, 7), (0, 12, 26, 8), (0, 12, 23, 9), (0, 12, 24, 10), (0, 12, 20, 11), (0, 12, 25, 12), (0, 12, 28, 13), (0, 12, 38, 14), (0, 12, 39, 15), (0, 12, 34, 16), (0, 12, 35, 17), (0, 12, 40, 18)], [(1, 0, 12, 0), (2, 1, 220, 1), (3, 0, 12, 2), (4, 0, 288, 3), (5, 0, 422, 4), (6, 0, 422, 5), (7, 0, 14, 6), (8, 0, 13, 7), (9, 0, 14, 8), (10, 0, 14, 9), (11, 0, 220, 10), (12, 0, 220, 11), (13, 0, 24, 12), (14, 0, 8, 13), (15, 0, 8, 14), (16, 0, 12, 15), (17, 0, 12, 16), (18, 0, 8, 17)])
theorem zyw_M_log : zv_wf zy_M_log = true := by decide +kernel
theorem zye_M_log : zv_ek2 zy_M_log = true := by decide +kernel
def zf_M_log_l0_b (g4 : (Int → Int)) (rec : Int → (Int → Int) → Option ((Int → Int))) (x3 : Int) (g3 : (Int → Int)) : Option ((Int → Int)) := if x3 < 288 then ((zf_M_isLand x3 g4).bind fun r10 => (if r10 = 0 then (cond (zi_ix x3 288) (rec (zi_w (x3 + 1)) (zv_up g3 x3 x3)) none) else (cond (zi_ix x3 288) (rec (zi_w (x3 + 1)) (zv_up g3 x3 (-1))) none))) else (some g3)
def zf_M_log_l0 (g4 : (Int → Int)) : Nat → Int → (Int → Int) → Option ((Int → Int))
  | 0, _, _ => none
  | n + 1, x3, g3 => zf_M_log_l0_b g4 (zf_M_log_l0 g4 n) x3 g3
def zf_M_log_l2_b (x1 : Int) (x3 : Int) (f0 : Int) (f2 : Int) (f5 : Int) (g0 : (Int → Int)) (g2 : (Int → Int)) (g4 : (Int → Int)) (g6 : (Int → Int)) (g8 : (Int → Int)) (g9 : (Int → Int)) (g10 : (Int → Int)) (g15 : (Int → Int)) (g16 : (Int → Int)) (rec : Int → Int → Int → (Int → Int) → (Int → Int) → (Int → Int) → (Int → Int) → (Int → Int) → (Int → Int) → (Int → Int) → Option (Int × Int × (Int → Int) × (Int → Int) × (Int → Int) × (Int → Int) × (Int → Int) × (Int → Int) × (Int → Int))) (x4 : Int) (f3 : Int) (f4 : Int) (g3 : (Int → Int)) (g7 : (Int → Int)) (g11 : (Int → Int)) (g12 : (Int → Int)) (g13 : (Int → Int)) (g14 : (Int → Int)) (g17 : (Int → Int)) : Option (Int × Int × (Int → Int) × (Int → Int) × (Int → Int) × (Int → Int) × (Int → Int) × (Int → Int) × (Int → Int)) := if x4 < 288 then (cond (zi_ix x4 288) (if (g3 x4) = (-1) then (rec (zi_w (x4 + 1)) f3 f4 g3 g7 g11 g12 g13 g14 g17) else ((zf_M_canBeTold (g3 x4) f2 f3 f4 f5 f0 g4 g6 g7 g8 g9 g10 g11 g12 g13 g14 g15 g16 g17).bind fun r20 => (cond (zi_ix x3 12) (if (g0 x3) = 1 then (if r20.1 = 1 then (if (zi_w (x3 + 1)) < x1 then ((zf_M_goesTo (g3 x4) (g2 x3)).bind fun r40 => (if ((zv_up g3 x4 r40) x4) = (-1) then (rec (zi_w (x4 + 1)) r20.2.1 r20.2.2.1 (zv_up g3 x4 r40) r20.2.2.2.1 r20.2.2.2.2.1 r20.2.2.2.2.2.1 r20.2.2.2.2.2.2.1 r20.2.2.2.2.2.2.2.1 r20.2.2.2.2.2.2.2.2) else ((zf_M_isLand ((zv_up g3 x4 r40) x4) g4).bind fun r42 => (if r42 = 0 then (rec (zi_w (x4 + 1)) r20.2.1 r20.2.2.1 (zv_up g3 x4 r40) r20.2.2.2.1 r20.2.2.2.2.1 r20.2.2.2.2.2.1 r20.2.2.2.2.2.2.1 r20.2.2.2.2.2.2.2.1 r20.2.2.2.2.2.2.2.2) else (rec (zi_w (x4 + 1)) r20.2.1 r20.2.2.1 (zv_up (zv_up g3 x4 r40) x4 (-1)) r20.2.2.2.1 r20.2.2.2.2.1 r20.2.2.2.2.2.1 r20.2.2.2.2.2.2.1 r20.2.2.2.2.2.2.2.1 r20.2.2.2.2.2.2.2.2))))) else ((zf_M_isLand (g3 x4) g4).bind fun r38 => (if r38 = 0 then (rec (zi_w (x4 + 1)) r20.2.1 r20.2.2.1 g3 r20.2.2.2.1 r20.2.2.2.2.1 r20.2.2.2.2.2.1 r20.2.2.2.2.2.2.1 r20.2.2.2.2.2.2.2.1 r20.2.2.2.2.2.2.2.2) else (rec (zi_w (x4 + 1)) r20.2.1 r20.2.2.1 (zv_up g3 x4 (-1)) r20.2.2.2.1 r20.2.2.2.2.1 r20.2.2.2.2.2.1 r20.2.2.2.2.2.2.1 r20.2.2.2.2.2.2.2.1 r20.2.2.2.2.2.2.2.2)))) else (if ((zv_up g3 x4 (-1)) x4) = (-1) then (rec (zi_w (x4 + 1)) r20.2.1 r20.2.2.1 (zv_up g3 x4 (-1)) r20.2.2.2.1 r20.2.2.2.2.1 r20.2.2.2.2.2.1 r20.2.2.2.2.2.2.1 r20.2.2.2.2.2.2.2.1 r20.2.2.2.2.2.2.2.2) else ((zf_M_isLand ((zv_up g3 x4 (-1)) x4) g4).bind fun r45 => (if r45 = 0 then (rec (zi_w (x4 + 1)) r20.2.1 r20.2.2.1 (zv_up g3 x4 (-1)) r20.2.2.2.1 r20.2.2.2.2.1 r20.2.2.2.2.2.1 r20.2.2.2.2.2.2.1 r20.2.2.2.2.2.2.2.1 r20.2.2.2.2.2.2.2.2) else (rec (zi_w (x4 + 1)) r20.2.1 r20.2.2.1 (zv_up (zv_up g3 x4 (-1)) x4 (-1)) r20.2.2.2.1 r20.2.2.2.2.1 r20.2.2.2.2.2.1 r20.2.2.2.2.2.2.1 r20.2.2.2.2.2.2.2.1 r20.2.2.2.2.2.2.2.2))))) else (if r20.1 = 0 then (if (zi_w (x3 + 1)) < x1 then ((zf_M_goesTo (g3 x4) (g2 x3)).bind fun r28 => (if ((zv_up g3 x4 r28) x4) = (-1) then (rec (zi_w (x4 + 1)) r20.2.1 r20.2.2.1 (zv_up g3 x4 r28) r20.2.2.2.1 r20.2.2.2.2.1 r20.2.2.2.2.2.1 r20.2.2.2.2.2.2.1 r20.2.2.2.2.2.2.2.1 r20.2.2.2.2.2.2.2.2) else ((zf_M_isLand ((zv_up g3 x4 r28) x4) g4).bind fun r30 => (if r30 = 0 then (rec (zi_w (x4 + 1)) r20.2.1 r20.2.2.1 (zv_up g3 x4 r28) r20.2.2.2.1 r20.2.2.2.2.1 r20.2.2.2.2.2.1 r20.2.2.2.2.2.2.1 r20.2.2.2.2.2.2.2.1 r20.2.2.2.2.2.2.2.2) else (rec (zi_w (x4 + 1)) r20.2.1 r20.2.2.1 (zv_up (zv_up g3 x4 r28) x4 (-1)) r20.2.2.2.1 r20.2.2.2.2.1 r20.2.2.2.2.2.1 r20.2.2.2.2.2.2.1 r20.2.2.2.2.2.2.2.1 r20.2.2.2.2.2.2.2.2))))) else ((zf_M_isLand (g3 x4) g4).bind fun r26 => (if r26 = 0 then (rec (zi_w (x4 + 1)) r20.2.1 r20.2.2.1 g3 r20.2.2.2.1 r20.2.2.2.2.1 r20.2.2.2.2.2.1 r20.2.2.2.2.2.2.1 r20.2.2.2.2.2.2.2.1 r20.2.2.2.2.2.2.2.2) else (rec (zi_w (x4 + 1)) r20.2.1 r20.2.2.1 (zv_up g3 x4 (-1)) r20.2.2.2.1 r20.2.2.2.2.1 r20.2.2.2.2.2.1 r20.2.2.2.2.2.2.1 r20.2.2.2.2.2.2.2.1 r20.2.2.2.2.2.2.2.2)))) else (if ((zv_up g3 x4 (-1)) x4) = (-1) then (rec (zi_w (x4 + 1)) r20.2.1 r20.2.2.1 (zv_up g3 x4 (-1)) r20.2.2.2.1 r20.2.2.2.2.1 r20.2.2.2.2.2.1 r20.2.2.2.2.2.2.1 r20.2.2.2.2.2.2.2.1 r20.2.2.2.2.2.2.2.2) else ((zf_M_isLand ((zv_up g3 x4 (-1)) x4) g4).bind fun r33 => (if r33 = 0 then (rec (zi_w (x4 + 1)) r20.2.1 r20.2.2.1 (zv_up g3 x4 (-1)) r20.2.2.2.1 r20.2.2.2.2.1 r20.2.2.2.2.2.1 r20.2.2.2.2.2.2.1 r20.2.2.2.2.2.2.2.1 r20.2.2.2.2.2.2.2.2) else (rec (zi_w (x4 + 1)) r20.2.1 r20.2.2.1 (zv_up (zv_up g3 x4 (-1)) x4 (-1)) r20.2.2.2.1 r20.2.2.2.2.1 r20.2.2.2.2.2.1 r20.2.2.2.2.2.2.1 r20.2.2.2.2.2.2.2.1 r20.2.2.2.2.2.2.2.2)))))) none))) none) else (some (f3, f4, g3, g7, g11, g12, g13, g14, g17))
def zf_M_log_l2 (x1 : Int) (x3 : Int) (f0 : Int) (f2 : Int) (f5 : Int) (g0 : (Int → Int)) (g2 : (Int → Int)) (g4 : (Int → Int)) (g6 : (Int → Int)) (g8 : (Int → Int)) (g9 : (Int → Int)) (g10 : (Int → Int)) (g15 : (Int → Int)) (g16 : (Int → Int)) : Nat → Int → Int → Int → (Int → Int) → (Int → Int) → (Int → Int) → (Int → Int) → (Int → Int) → (Int → Int) → (Int → Int) → Option (Int × Int × (Int → Int) × (Int → Int) × (Int → Int) × (Int → Int) × (Int → Int) × (Int → Int) × (Int → Int))
  | 0, _, _, _, _, _, _, _, _, _, _ => none
  | n + 1, x4, f3, f4, g3, g7, g11, g12, g13, g14, g17 => zf_M_log_l2_b x1 x3 f0 f2 f5 g0 g2 g4 g6 g8 g9 g10 g15 g16 (zf_M_log_l2 x1 x3 f0 f2 f5 g0 g2 g4 g6 g8 g9 g10 g15 g16 n) x4 f3 f4 g3 g7 g11 g12 g13 g14 g17
def zf_M_log_l1_b (x1 : Int) (f0 : Int) (f2 : Int) (f5 : Int) (g0 : (Int → Int)) (g2 : (Int → Int)) (g6 : (Int → Int)) (g8 : (Int → Int)) (g9 : (Int → Int)) (g10 : (Int → Int)) (g15 : (Int → Int)) (g16 : (Int → Int)) (rec : Int → Int → Int → (Int → Int) → (Int → Int) → (Int → Int) → (Int → Int) → (Int → Int) → (Int → Int) → (Int → Int) → (Int → Int) → Option (Int × Int × (Int → Int) × (Int → Int) × (Int → Int) × (Int → Int) × (Int → Int) × (Int → Int) × (Int → Int) × (Int → Int))) (x3 : Int) (f3 : Int) (f4 : Int) (g3 : (Int → Int)) (g4 : (Int → Int)) (g7 : (Int → Int)) (g11 : (Int → Int)) (g12 : (Int → Int)) (g13 : (Int → Int)) (g14 : (Int → Int)) (g17 : (Int → Int)) : Option (Int × Int × (Int → Int) × (Int → Int) × (Int → Int) × (Int → Int) × (Int → Int) × (Int → Int) × (Int → Int) × (Int → Int)) := if x3 < x1 then ((zf_M_log_l2 x1 x3 f0 f2 f5 g0 g2 g4 g6 g8 g9 g10 g15 g16 zi_fu 0 f3 f4 g3 g7 g11 g12 g13 g14 g17).bind fun q47 => ((zf_M_passes g4).bind fun r48 => (rec (zi_w (x3 + 1)) q47.1 q47.2.1 q47.2.2.1 r48 q47.2.2.2.1 q47.2.2.2.2.1 q47.2.2.2.2.2.1 q47.2.2.2.2.2.2.1 q47.2.2.2.2.2.2.2.1 q47.2.2.2.2.2.2.2.2))) else (some (f3, f4, g3, g4, g7, g11, g12, g13, g14, g17))
def zf_M_log_l1 (x1 : Int) (f0 : Int) (f2 : Int) (f5 : Int) (g0 : (Int → Int)) (g2 : (Int → Int)) (g6 : (Int → Int)) (g8 : (Int → Int)) (g9 : (Int → Int)) (g10 : (Int → Int)) (g15 : (Int → Int)) (g16 : (Int → Int)) : Nat → Int → Int → Int → (Int → Int) → (Int → Int) → (Int → Int) → (Int → Int) → (Int → Int) → (Int → Int) → (Int → Int) → (Int → Int) → Option (Int × Int × (Int → Int) × (Int → Int) × (Int → Int) × (Int → Int) × (Int → Int) × (Int → Int) × (Int → Int) × (Int → Int))
  | 0, _, _, _, _, _, _, _, _, _, _, _ => none
  | n + 1, x3, f3, f4, g3, g4, g7, g11, g12, g13, g14, g17 => zf_M_log_l1_b x1 f0 f2 f5 g0 g2 g6 g8 g9 g10 g15 g16 (zf_M_log_l1 x1 f0 f2 f5 g0 g2 g6 g8 g9 g10 g15 g16 n) x3 f3 f4 g3 g4 g7 g11 g12 g13 g14 g17
def zf_M_log_l3_b (g3 : (Int → Int)) (rec : Int → Int → Int → Option (Int × Int)) (x3 : Int) (x4 : Int) (x5 : Int) : Option (Int × Int) := if x5 < 288 then (cond (zi_ix x5 288) (if (g3 x5) = (-1) then (rec x3 x4 (zi_w (x5 + 1))) else (if x3 = 0 then (rec (zi_w (x3 + 1)) x5 (zi_w (x5 + 1))) else (rec (zi_w (x3 + 1)) x4 (zi_w (x5 + 1))))) none) else (some (x3, x4))
def zf_M_log_l3 (g3 : (Int → Int)) : Nat → Int → Int → Int → Option (Int × Int)
  | 0, _, _, _ => none
  | n + 1, x3, x4, x5 => zf_M_log_l3_b g3 (zf_M_log_l3 g3 n) x3 x4 x5
def zf_M_log (x1 : Int) (x2 : Int) (f0 : Int) (f1 : Int) (f2 : Int) (f3 : Int) (f4 : Int) (f5 : Int) (g0 : (Int → Int)) (g1 : (Int → Int)) (g2 : (Int → Int)) (g3 : (Int → Int)) (g4 : (Int → Int)) (g5 : (Int → Int)) (g6 : (Int → Int)) (g7 : (Int → Int)) (g8 : (Int → Int)) (g9 : (Int → Int)) (g10 : (Int → Int)) (g11 : (Int → Int)) (g12 : (Int → Int)) (g13 : (Int → Int)) (g14 : (Int → Int)) (g15 : (Int → Int)) (g16 : (Int → Int)) (g17 : (Int → Int)) : Option (Int × Int × Int × Int × (Int → Int) × (Int → Int) × (Int → Int) × (Int → Int) × (Int → Int) × (Int → Int) × (Int → Int) × (Int → Int) × (Int → Int) × (Int → Int) × (Int → Int)) := (zf_M_in x1 1 12).bind fun r1 => (if r1 = 0 then (some ((-1), f1, f3, f4, g0, g2, g3, g4, g5, g7, g11, g12, g13, g14, g17)) else ((zf_M_in x2 0 1).bind fun r3 => (if r3 = 0 then (some ((-1), f1, f3, f4, g0, g2, g3, g4, g5, g7, g11, g12, g13, g14, g17)) else (if f0 = 0 then (some ((-1), f1, f3, f4, g0, g2, g3, g4, g5, g7, g11, g12, g13, g14, g17)) else (if f1 < (zi_w (2 * x1)) then (some ((-1), f1, f3, f4, g0, g2, g3, g4, g5, g7, g11, g12, g13, g14, g17)) else ((zf_M_takesLog x1 g0 g1 g2).bind fun r7 => (if r7.1 = 0 then (some ((-2), 0, f3, f4, r7.2.1, r7.2.2, g3, g4, g5, g7, g11, g12, g13, g14, g17)) else ((zf_M_log_l0 g4 zi_fu 0 g3).bind fun q14 => ((zf_M_begins g4 g5).bind fun r15 => ((zf_M_log_l1 x1 f0 f2 f5 r7.2.1 r7.2.2 g6 g8 g9 g10 g15 g16 zi_fu 0 f3 f4 q14 g4 g7 g11 g12 g13 g14 g17).bind fun q49 => ((zf_M_again r15 q49.2.2.2.1).bind fun r50 => ((zf_M_log_l3 q49.2.2.1 zi_fu 0 (-2) 0).bind fun q55 => (if x2 = 0 then (some (q55.1, 0, q49.1, q49.2.1, r7.2.1, r7.2.2, q49.2.2.1, r50, r15, q49.2.2.2.2.1, q49.2.2.2.2.2.1, q49.2.2.2.2.2.2.1, q49.2.2.2.2.2.2.2.1, q49.2.2.2.2.2.2.2.2.1, q49.2.2.2.2.2.2.2.2.2)) else (some (q55.2, 0, q49.1, q49.2.1, r7.2.1, r7.2.2, q49.2.2.1, r50, r15, q49.2.2.2.2.1, q49.2.2.2.2.2.1, q49.2.2.2.2.2.2.1, q49.2.2.2.2.2.2.2.1, q49.2.2.2.2.2.2.2.2.1, q49.2.2.2.2.2.2.2.2.2)))))))))))))))
theorem zd314_0 : decode zxm314.2.1 0 = .ok (.iload_n 1, 1) := by decide +kernel
theorem zd314_1 : decode zxm314.2.1 1 = .ok (.iconst 1, 1) := by decide +kernel
theorem zd314_2 : decode zxm314.2.1 2 = .ok (.bipush 12, 2) := by decide +kernel
theorem zd314_4 : decode zxm314.2.1 4 = .ok (.invokestatic 150, 3) := by decide +kernel
theorem zd314_7 : decode zxm314.2.1 7 = .ok (.ifCond .eq 29, 3) := by decide +kernel
theorem zd314_10 : decode zxm314.2.1 10 = .ok (.iload_n 2, 1) := by decide +kernel
theorem zd314_11 : decode zxm314.2.1 11 = .ok (.iconst 0, 1) := by decide +kernel
theorem zd314_12 : decode zxm314.2.1 12 = .ok (.iconst 1, 1) := by decide +kernel
theorem zd314_13 : decode zxm314.2.1 13 = .ok (.invokestatic 150, 3) := by decide +kernel
theorem zd314_16 : decode zxm314.2.1 16 = .ok (.ifCond .eq 20, 3) := by decide +kernel
theorem zd314_19 : decode zxm314.2.1 19 = .ok (.aload_n 0, 1) := by decide +kernel
theorem zd314_20 : decode zxm314.2.1 20 = .ok (.getfield 351, 3) := by decide +kernel
theorem zd314_23 : decode zxm314.2.1 23 = .ok (.ifCond .eq 13, 3) := by decide +kernel
theorem zd314_26 : decode zxm314.2.1 26 = .ok (.iconst 2, 1) := by decide +kernel
theorem zd314_27 : decode zxm314.2.1 27 = .ok (.iload_n 1, 1) := by decide +kernel
theorem zd314_28 : decode zxm314.2.1 28 = .ok (.imul, 1) := by decide +kernel
theorem zd314_29 : decode zxm314.2.1 29 = .ok (.aload_n 0, 1) := by decide +kernel
theorem zd314_30 : decode zxm314.2.1 30 = .ok (.getfield 168, 3) := by decide +kernel
theorem zd314_33 : decode zxm314.2.1 33 = .ok (.if_icmp .le 5, 3) := by decide +kernel
theorem zd314_36 : decode zxm314.2.1 36 = .ok (.iconst (-1), 1) := by decide +kernel
theorem zd314_37 : decode zxm314.2.1 37 = .ok (.ireturn, 1) := by decide +kernel
theorem zd314_38 : decode zxm314.2.1 38 = .ok (.aload_n 0, 1) := by decide +kernel
theorem zd314_39 : decode zxm314.2.1 39 = .ok (.iconst 0, 1) := by decide +kernel
theorem zd314_40 : decode zxm314.2.1 40 = .ok (.putfield 168, 3) := by decide +kernel
theorem zd314_43 : decode zxm314.2.1 43 = .ok (.aload_n 0, 1) := by decide +kernel
theorem zd314_44 : decode zxm314.2.1 44 = .ok (.iload_n 1, 1) := by decide +kernel
theorem zd314_45 : decode zxm314.2.1 45 = .ok (.invokevirtual 475, 3) := by decide +kernel
theorem zd314_48 : decode zxm314.2.1 48 = .ok (.ifCond .ne 6, 3) := by decide +kernel
theorem zd314_51 : decode zxm314.2.1 51 = .ok (.bipush (-2), 2) := by decide +kernel
theorem zd314_53 : decode zxm314.2.1 53 = .ok (.ireturn, 1) := by decide +kernel
theorem zd314_54 : decode zxm314.2.1 54 = .ok (.iconst 0, 1) := by decide +kernel
theorem zd314_55 : decode zxm314.2.1 55 = .ok (.istore_n 3, 1) := by decide +kernel
theorem zd314_56 : decode zxm314.2.1 56 = .ok (.iload_n 3, 1) := by decide +kernel
theorem zd314_57 : decode zxm314.2.1 57 = .ok (.sipush 288, 3) := by decide +kernel
theorem zd314_60 : decode zxm314.2.1 60 = .ok (.if_icmp .ge 28, 3) := by decide +kernel
theorem zd314_63 : decode zxm314.2.1 63 = .ok (.aload_n 0, 1) := by decide +kernel
theorem zd314_64 : decode zxm314.2.1 64 = .ok (.getfield 131, 3) := by decide +kernel
theorem zd314_67 : decode zxm314.2.1 67 = .ok (.iload_n 3, 1) := by decide +kernel
theorem zd314_68 : decode zxm314.2.1 68 = .ok (.aload_n 0, 1) := by decide +kernel
theorem zd314_69 : decode zxm314.2.1 69 = .ok (.iload_n 3, 1) := by decide +kernel
theorem zd314_70 : decode zxm314.2.1 70 = .ok (.invokevirtual 165, 3) := by decide +kernel
theorem zd314_73 : decode zxm314.2.1 73 = .ok (.ifCond .eq 7, 3) := by decide +kernel
theorem zd314_76 : decode zxm314.2.1 76 = .ok (.iconst (-1), 1) := by decide +kernel
theorem zd314_77 : decode zxm314.2.1 77 = .ok (.goto 4, 3) := by decide +kernel
theorem zd314_80 : decode zxm314.2.1 80 = .ok (.iload_n 3, 1) := by decide +kernel
theorem zd314_81 : decode zxm314.2.1 81 = .ok (.iastore, 1) := by decide +kernel
theorem zd314_82 : decode zxm314.2.1 82 = .ok (.iinc 3 1, 3) := by decide +kernel
theorem zd314_85 : decode zxm314.2.1 85 = .ok (.goto (-29), 3) := by decide +kernel
theorem zd314_88 : decode zxm314.2.1 88 = .ok (.aload_n 0, 1) := by decide +kernel
theorem zd314_89 : decode zxm314.2.1 89 = .ok (.invokevirtual 434, 3) := by decide +kernel
theorem zd314_92 : decode zxm314.2.1 92 = .ok (.iconst 0, 1) := by decide +kernel
theorem zd314_93 : decode zxm314.2.1 93 = .ok (.istore_n 3, 1) := by decide +kernel
theorem zd314_94 : decode zxm314.2.1 94 = .ok (.iload_n 3, 1) := by decide +kernel
theorem zd314_95 : decode zxm314.2.1 95 = .ok (.iload_n 1, 1) := by decide +kernel
theorem zd314_96 : decode zxm314.2.1 96 = .ok (.if_icmp .ge 147, 3) := by decide +kernel
theorem zd314_99 : decode zxm314.2.1 99 = .ok (.iconst 0, 1) := by decide +kernel
theorem zd314_100 : decode zxm314.2.1 100 = .ok (.istore 4, 2) := by decide +kernel
theorem zd314_102 : decode zxm314.2.1 102 = .ok (.iload 4, 2) := by decide +kernel
theorem zd314_104 : decode zxm314.2.1 104 = .ok (.sipush 288, 3) := by decide +kernel
theorem zd314_107 : decode zxm314.2.1 107 = .ok (.if_icmp .ge 126, 3) := by decide +kernel
theorem zd314_110 : decode zxm314.2.1 110 = .ok (.aload_n 0, 1) := by decide +kernel
theorem zd314_111 : decode zxm314.2.1 111 = .ok (.getfield 131, 3) := by decide +kernel
theorem zd314_114 : decode zxm314.2.1 114 = .ok (.iload 4, 2) := by decide +kernel
theorem zd314_116 : decode zxm314.2.1 116 = .ok (.iaload, 1) := by decide +kernel
theorem zd314_117 : decode zxm314.2.1 117 = .ok (.iconst (-1), 1) := by decide +kernel
theorem zd314_118 : decode zxm314.2.1 118 = .ok (.if_icmp .ne 6, 3) := by decide +kernel
theorem zd314_121 : decode zxm314.2.1 121 = .ok (.goto 106, 3) := by decide +kernel
theorem zd314_124 : decode zxm314.2.1 124 = .ok (.aload_n 0, 1) := by decide +kernel
theorem zd314_125 : decode zxm314.2.1 125 = .ok (.aload_n 0, 1) := by decide +kernel
theorem zd314_126 : decode zxm314.2.1 126 = .ok (.getfield 131, 3) := by decide +kernel
theorem zd314_129 : decode zxm314.2.1 129 = .ok (.iload 4, 2) := by decide +kernel
theorem zd314_131 : decode zxm314.2.1 131 = .ok (.iaload, 1) := by decide +kernel
theorem zd314_132 : decode zxm314.2.1 132 = .ok (.invokevirtual 369, 3) := by decide +kernel
theorem zd314_135 : decode zxm314.2.1 135 = .ok (.aload_n 0, 1) := by decide +kernel
theorem zd314_136 : decode zxm314.2.1 136 = .ok (.getfield 125, 3) := by decide +kernel
theorem zd314_139 : decode zxm314.2.1 139 = .ok (.iload_n 3, 1) := by decide +kernel
theorem zd314_140 : decode zxm314.2.1 140 = .ok (.iaload, 1) := by decide +kernel
theorem zd314_141 : decode zxm314.2.1 141 = .ok (.iconst 1, 1) := by decide +kernel
theorem zd314_142 : decode zxm314.2.1 142 = .ok (.if_icmp .ne 7, 3) := by decide +kernel
theorem zd314_145 : decode zxm314.2.1 145 = .ok (.iconst 1, 1) := by decide +kernel
theorem zd314_146 : decode zxm314.2.1 146 = .ok (.goto 4, 3) := by decide +kernel
theorem zd314_149 : decode zxm314.2.1 149 = .ok (.iconst 0, 1) := by decide +kernel
theorem zd314_150 : decode zxm314.2.1 150 = .ok (.if_icmp .eq 14, 3) := by decide +kernel
theorem zd314_153 : decode zxm314.2.1 153 = .ok (.aload_n 0, 1) := by decide +kernel
theorem zd314_154 : decode zxm314.2.1 154 = .ok (.getfield 131, 3) := by decide +kernel
theorem zd314_157 : decode zxm314.2.1 157 = .ok (.iload 4, 2) := by decide +kernel
theorem zd314_159 : decode zxm314.2.1 159 = .ok (.iconst (-1), 1) := by decide +kernel
theorem zd314_160 : decode zxm314.2.1 160 = .ok (.iastore, 1) := by decide +kernel
theorem zd314_161 : decode zxm314.2.1 161 = .ok (.goto 33, 3) := by decide +kernel
theorem zd314_164 : decode zxm314.2.1 164 = .ok (.iload_n 3, 1) := by decide +kernel
theorem zd314_165 : decode zxm314.2.1 165 = .ok (.iconst 1, 1) := by decide +kernel
theorem zd314_166 : decode zxm314.2.1 166 = .ok (.iadd, 1) := by decide +kernel
theorem zd314_167 : decode zxm314.2.1 167 = .ok (.iload_n 1, 1) := by decide +kernel
theorem zd314_168 : decode zxm314.2.1 168 = .ok (.if_icmp .ge 26, 3) := by decide +kernel
theorem zd314_171 : decode zxm314.2.1 171 = .ok (.aload_n 0, 1) := by decide +kernel
theorem zd314_172 : decode zxm314.2.1 172 = .ok (.getfield 131, 3) := by decide +kernel
theorem zd314_175 : decode zxm314.2.1 175 = .ok (.iload 4, 2) := by decide +kernel
theorem zd314_177 : decode zxm314.2.1 177 = .ok (.aload_n 0, 1) := by decide +kernel
theorem zd314_178 : decode zxm314.2.1 178 = .ok (.getfield 131, 3) := by decide +kernel
theorem zd314_181 : decode zxm314.2.1 181 = .ok (.iload 4, 2) := by decide +kernel
theorem zd314_183 : decode zxm314.2.1 183 = .ok (.iaload, 1) := by decide +kernel
theorem zd314_184 : decode zxm314.2.1 184 = .ok (.aload_n 0, 1) := by decide +kernel
theorem zd314_185 : decode zxm314.2.1 185 = .ok (.getfield 128, 3) := by decide +kernel
theorem zd314_188 : decode zxm314.2.1 188 = .ok (.iload_n 3, 1) := by decide +kernel
theorem zd314_189 : decode zxm314.2.1 189 = .ok (.iaload, 1) := by decide +kernel
theorem zd314_190 : decode zxm314.2.1 190 = .ok (.invokestatic 440, 3) := by decide +kernel
theorem zd314_193 : decode zxm314.2.1 193 = .ok (.iastore, 1) := by decide +kernel
theorem zd314_194 : decode zxm314.2.1 194 = .ok (.aload_n 0, 1) := by decide +kernel
theorem zd314_195 : decode zxm314.2.1 195 = .ok (.getfield 131, 3) := by decide +kernel
theorem zd314_198 : decode zxm314.2.1 198 = .ok (.iload 4, 2) := by decide +kernel
theorem zd314_200 : decode zxm314.2.1 200 = .ok (.iaload, 1) := by decide +kernel
theorem zd314_201 : decode zxm314.2.1 201 = .ok (.iconst (-1), 1) := by decide +kernel
theorem zd314_202 : decode zxm314.2.1 202 = .ok (.if_icmp .eq 25, 3) := by decide +kernel
theorem zd314_205 : decode zxm314.2.1 205 = .ok (.aload_n 0, 1) := by decide +kernel
theorem zd314_206 : decode zxm314.2.1 206 = .ok (.aload_n 0, 1) := by decide +kernel
theorem zd314_207 : decode zxm314.2.1 207 = .ok (.getfield 131, 3) := by decide +kernel
theorem zd314_210 : decode zxm314.2.1 210 = .ok (.iload 4, 2) := by decide +kernel
theorem zd314_212 : decode zxm314.2.1 212 = .ok (.iaload, 1) := by decide +kernel
theorem zd314_213 : decode zxm314.2.1 213 = .ok (.invokevirtual 165, 3) := by decide +kernel
theorem zd314_216 : decode zxm314.2.1 216 = .ok (.ifCond .eq 11, 3) := by decide +kernel
theorem zd314_219 : decode zxm314.2.1 219 = .ok (.aload_n 0, 1) := by decide +kernel
theorem zd314_220 : decode zxm314.2.1 220 = .ok (.getfield 131, 3) := by decide +kernel
theorem zd314_223 : decode zxm314.2.1 223 = .ok (.iload 4, 2) := by decide +kernel
theorem zd314_225 : decode zxm314.2.1 225 = .ok (.iconst (-1), 1) := by decide +kernel
theorem zd314_226 : decode zxm314.2.1 226 = .ok (.iastore, 1) := by decide +kernel
theorem zd314_227 : decode zxm314.2.1 227 = .ok (.iinc 4 1, 3) := by decide +kernel
theorem zd314_230 : decode zxm314.2.1 230 = .ok (.goto (-128), 3) := by decide +kernel
theorem zd314_233 : decode zxm314.2.1 233 = .ok (.aload_n 0, 1) := by decide +kernel
theorem zd314_234 : decode zxm314.2.1 234 = .ok (.invokevirtual 427, 3) := by decide +kernel
theorem zd314_237 : decode zxm314.2.1 237 = .ok (.iinc 3 1, 3) := by decide +kernel
theorem zd314_240 : decode zxm314.2.1 240 = .ok (.goto (-146), 3) := by decide +kernel
theorem zd314_243 : decode zxm314.2.1 243 = .ok (.aload_n 0, 1) := by decide +kernel
theorem zd314_244 : decode zxm314.2.1 244 = .ok (.invokevirtual 437, 3) := by decide +kernel
theorem zd314_247 : decode zxm314.2.1 247 = .ok (.iconst 0, 1) := by decide +kernel
theorem zd314_248 : decode zxm314.2.1 248 = .ok (.istore_n 3, 1) := by decide +kernel
theorem zd314_249 : decode zxm314.2.1 249 = .ok (.bipush (-2), 2) := by decide +kernel
theorem zd314_251 : decode zxm314.2.1 251 = .ok (.istore 4, 2) := by decide +kernel
theorem zd314_253 : decode zxm314.2.1 253 = .ok (.iconst 0, 1) := by decide +kernel
theorem zd314_254 : decode zxm314.2.1 254 = .ok (.istore 5, 2) := by decide +kernel
theorem zd314_256 : decode zxm314.2.1 256 = .ok (.iload 5, 2) := by decide +kernel
theorem zd314_258 : decode zxm314.2.1 258 = .ok (.sipush 288, 3) := by decide +kernel
theorem zd314_261 : decode zxm314.2.1 261 = .ok (.if_icmp .ge 40, 3) := by decide +kernel
theorem zd314_264 : decode zxm314.2.1 264 = .ok (.aload_n 0, 1) := by decide +kernel
theorem zd314_265 : decode zxm314.2.1 265 = .ok (.getfield 131, 3) := by decide +kernel
theorem zd314_268 : decode zxm314.2.1 268 = .ok (.iload 5, 2) := by decide +kernel
theorem zd314_270 : decode zxm314.2.1 270 = .ok (.iaload, 1) := by decide +kernel
theorem zd314_271 : decode zxm314.2.1 271 = .ok (.iconst (-1), 1) := by decide +kernel
theorem zd314_272 : decode zxm314.2.1 272 = .ok (.if_icmp .ne 6, 3) := by decide +kernel
theorem zd314_275 : decode zxm314.2.1 275 = .ok (.goto 20, 3) := by decide +kernel
theorem zd314_278 : decode zxm314.2.1 278 = .ok (.iload_n 3, 1) := by decide +kernel
theorem zd314_279 : decode zxm314.2.1 279 = .ok (.ifCond .ne 8, 3) := by decide +kernel
theorem zd314_282 : decode zxm314.2.1 282 = .ok (.iload 5, 2) := by decide +kernel
theorem zd314_284 : decode zxm314.2.1 284 = .ok (.goto 5, 3) := by decide +kernel
theorem zd314_287 : decode zxm314.2.1 287 = .ok (.iload 4, 2) := by decide +kernel
theorem zd314_289 : decode zxm314.2.1 289 = .ok (.istore 4, 2) := by decide +kernel
theorem zd314_291 : decode zxm314.2.1 291 = .ok (.iload_n 3, 1) := by decide +kernel
theorem zd314_292 : decode zxm314.2.1 292 = .ok (.iconst 1, 1) := by decide +kernel
theorem zd314_293 : decode zxm314.2.1 293 = .ok (.iadd, 1) := by decide +kernel
theorem zd314_294 : decode zxm314.2.1 294 = .ok (.istore_n 3, 1) := by decide +kernel
theorem zd314_295 : decode zxm314.2.1 295 = .ok (.iinc 5 1, 3) := by decide +kernel
theorem zd314_298 : decode zxm314.2.1 298 = .ok (.goto (-42), 3) := by decide +kernel
theorem zd314_301 : decode zxm314.2.1 301 = .ok (.iload_n 2, 1) := by decide +kernel
theorem zd314_302 : decode zxm314.2.1 302 = .ok (.ifCond .ne 7, 3) := by decide +kernel
theorem zd314_305 : decode zxm314.2.1 305 = .ok (.iload_n 3, 1) := by decide +kernel
theorem zd314_306 : decode zxm314.2.1 306 = .ok (.goto 5, 3) := by decide +kernel
theorem zd314_309 : decode zxm314.2.1 309 = .ok (.iload 4, 2) := by decide +kernel
theorem zd314_311 : decode zxm314.2.1 311 = .ok (.ireturn, 1) := by decide +kernel
theorem zt_M_log {x1 : Int} {x2 : Int} {f0 : Int} {f1 : Int} {f2 : Int} {f3 : Int} {f4 : Int} {f5 : Int} {g0 : (Int → Int)} {g1 : (Int → Int)} {g2 : (Int → Int)} {g3 : (Int → Int)} {g4 : (Int → Int)} {g5 : (Int → Int)} {g6 : (Int → Int)} {g7 : (Int → Int)} {g8 : (Int → Int)} {g9 : (Int → Int)} {g10 : (Int → Int)} {g11 : (Int → Int)} {g12 : (Int → Int)} {g13 : (Int → Int)} {g14 : (Int → Int)} {g15 : (Int → Int)} {g16 : (Int → Int)} {g17 : (Int → Int)} {o : Int × Int × Int × Int × (Int → Int) × (Int → Int) × (Int → Int) × (Int → Int) × (Int → Int) × (Int → Int) × (Int → Int) × (Int → Int) × (Int → Int) × (Int → Int) × (Int → Int)} (h : zf_M_log x1 x2 f0 f1 f2 f3 f4 f5 g0 g1 g2 g3 g4 g5 g6 g7 g8 g9 g10 g11 g12 g13 g14 g15 g16 g17 = some o) : zv_Fn z_TB z_cl z_KX zy_M_log zxm314 (7, 420) [.inr 0, .inl x1, .inl x2] [.inl f0, .inl f1, .inl f2, .inl f3, .inl f4, .inl f5] [g0, g1, g2, g3, g4, g5, g6, g7, g8, g9, g10, g11, g12, g13, g14, g15, g16, g17] (some o.1) [.inl f0, .inl o.2.1, .inl f2, .inl o.2.2.1, .inl o.2.2.2.1, .inl f5] [o.2.2.2.2.1, g1, o.2.2.2.2.2.1, o.2.2.2.2.2.2.1, o.2.2.2.2.2.2.2.1, o.2.2.2.2.2.2.2.2.1, g6, o.2.2.2.2.2.2.2.2.2.1, g8, g9, g10, o.2.2.2.2.2.2.2.2.2.2.1, o.2.2.2.2.2.2.2.2.2.2.2.1, o.2.2.2.2.2.2.2.2.2.2.2.2.1, o.2.2.2.2.2.2.2.2.2.2.2.2.2.1, g15, g16, o.2.2.2.2.2.2.2.2.2.2.2.2.2.2] := zv_meth (K := (z_KF13, z_KC13, z_KL13, z_KT13, [], [], [], none)) (FT := z_FT) (MT := z_MT) (n := 3) zxp314 (z_ks13 _ (fun _ h => List.mem_cons_of_mem _ h) _ _ _ _ (fun j r h _ => by cases h)) (fun _ _ => zs_KX_p) zyw_M_log (fun va F G h => by obtain ⟨rfl, _⟩ := h; rfl) (fun va F G h => by obtain ⟨rfl, _⟩ := h; rfl) rfl fun good va F G hB hret hvret hP => by
  obtain ⟨rfl, rfl, rfl⟩ := hP
  have l0 : ∀ (n : Nat) (x1 : Int) (x2 : Int) (x3 : Int) (f1 : Int) (f3 : Int) (f4 : Int) (g0 : (Int → Int)) (g2 : (Int → Int)) (g3 : (Int → Int)) (g4 : (Int → Int)) (g5 : (Int → Int)) (g7 : (Int → Int)) (g11 : (Int → Int)) (g12 : (Int → Int)) (g13 : (Int → Int)) (g14 : (Int → Int)) (g17 : (Int → Int)) (q : (Int → Int)), zf_M_log_l0 g4 n x3 g3 = some q → (good 88 [.inr 0, .inl x1, .inl x2, .inr 1000, .inr 1000, .inr 1000] [] [.inl f0, .inl f1, .inl f2, .inl f3, .inl f4, .inl f5] [g0, g1, g2, q, g4, g5, g6, g7, g8, g9, g10, g11, g12, g13, g14, g15, g16, g17]) → good 56 [.inr 0, .inl x1, .inl x2, .inl x3, .inr 1000, .inr 1000] [] [.inl f0, .inl f1, .inl f2, .inl f3, .inl f4, .inl f5] [g0, g1, g2, g3, g4, g5, g6, g7, g8, g9, g10, g11, g12, g13, g14, g15, g16, g17] := by
    intro n
    induction n with
    | zero => intro x1 x2 x3 f1 f3 f4 g0 g2 g3 g4 g5 g7 g11 g12 g13 g14 g17 q h; exact absurd (show none = some q from h) (fun h => by cases h)
    | succ n ih =>
      intro x1 x2 x3 f1 f3 f4 g0 g2 g3 g4 g5 g7 g11 g12 g13 g14 g17 q h hK
      replace h : zf_M_log_l0_b g4 (zf_M_log_l0 g4 n) x3 g3 = some q := h
      unfold zf_M_log_l0_b at h
      refine zv_ild hB zd314_56 rfl rfl ?_
      refine zv_con hB zd314_57 rfl ?_
      refine zv_cge hB zd314_60 rfl (fun hc9 => ?_) (fun hc9 => ?_)
      · rw [if_neg (Int.not_lt.mpr hc9)] at h
        have hq := Option.some.inj h
        subst hq
        refine zv_wk hB (L' := [.inr 0, .inl x1, .inl x2, .inr 1000, .inr 1000, .inr 1000]) (F' := [.inl f0, .inl f1, .inl f2, .inl f3, .inl f4, .inl f5]) ⟨fun _ => rfl, fun _ => rfl, fun _ => rfl, fun (h : zv_is (.inr 1000)) => (Nat.lt_irrefl 1000 h).elim, fun (h : zv_is (.inr 1000)) => (Nat.lt_irrefl 1000 h).elim, fun (h : zv_is (.inr 1000)) => (Nat.lt_irrefl 1000 h).elim, trivial⟩ ⟨fun _ => rfl, fun _ => rfl, fun _ => rfl, fun _ => rfl, fun _ => rfl, fun _ => rfl, trivial⟩ ?_
        exact hK
      · rw [if_pos hc9] at h
        refine zv_ald hB zd314_63 rfl rfl rfl ?_
        refine zv_getr hB zd314_64 rfl ?_
        refine zv_ild hB zd314_67 rfl rfl ?_
        refine zv_ald hB zd314_68 rfl rfl rfl ?_
        refine zv_ild hB zd314_69 rfl rfl ?_
        obtain ⟨r10, hr10, h⟩ := zi_bind h
        refine zv_cv hB (zv_emq (va2 := [.inr 0, .inl x3]) (F := [.inl f0, .inl f1, .inl f2, .inl f3, .inl f4, .inl f5]) (F' := [.inl f0, .inl f1, .inl f2, .inl f3, .inl f4, .inl f5]) (G := [g0, g1, g2, g3, g4, g5, g6, g7, g8, g9, g10, g11, g12, g13, g14, g15, g16, g17]) (G' := [g0, g1, g2, g3, g4, g5, g6, g7, g8, g9, g10, g11, g12, g13, g14, g15, g16, g17]) (ρ := [0, 5]) (φ := []) (ψ := [4]) [none, none, none, none, none, none] [none, none, none, none, some 0, none, none, none, none, none, none, none, none, none, none, none, none, none] zyw_M_isLand zyw_M_log zye_M_log (by decide +kernel) (zt_M_isLand hr10) trivial ⟨rfl, trivial⟩ rfl rfl rfl rfl rfl rfl rfl) zd314_70 zxt212 rfl (by decide) (by decide) rfl ?_
        refine zv_zeq hB zd314_73 rfl (fun hc11 => ?_) (fun hc11 => ?_)
        · rw [if_pos hc11] at h
          refine zv_ild hB zd314_80 rfl rfl ?_
          obtain ⟨c12, h⟩ := zi_if h
          refine zv_iast hB zd314_81 rfl rfl (zi_ix_ok c12).1 (zi_ix_ok c12).2 ?_
          refine zv_iincw hB zd314_82 rfl rfl ?_
          refine zv_goto hB zd314_85 rfl ?_
          exact ih _ _ _ _ _ _ _ _ _ _ _ _ _ _ _ _ _ q h hK
        · rw [if_neg hc11] at h
          refine zv_con hB zd314_76 rfl ?_
          refine zv_goto hB zd314_77 rfl ?_
          obtain ⟨c13, h⟩ := zi_if h
          refine zv_iast hB zd314_81 rfl rfl (zi_ix_ok c13).1 (zi_ix_ok c13).2 ?_
          refine zv_iincw hB zd314_82 rfl rfl ?_
          refine zv_goto hB zd314_85 rfl ?_
          exact ih _ _ _ _ _ _ _ _ _ _ _ _ _ _ _ _ _ q h hK
  have l2 : ∀ (n : Nat) (x1 : Int) (x2 : Int) (x3 : Int) (x4 : Int) (f1 : Int) (f3 : Int) (f4 : Int) (g0 : (Int → Int)) (g2 : (Int → Int)) (g3 : (Int → Int)) (g4 : (Int → Int)) (g5 : (Int → Int)) (g7 : (Int → Int)) (g11 : (Int → Int)) (g12 : (Int → Int)) (g13 : (Int → Int)) (g14 : (Int → Int)) (g17 : (Int → Int)) (q : Int × Int × (Int → Int) × (Int → Int) × (Int → Int) × (Int → Int) × (Int → Int) × (Int → Int) × (Int → Int)), zf_M_log_l2 x1 x3 f0 f2 f5 g0 g2 g4 g6 g8 g9 g10 g15 g16 n x4 f3 f4 g3 g7 g11 g12 g13 g14 g17 = some q → (good 233 [.inr 0, .inl x1, .inl x2, .inl x3, .inr 1000, .inr 1000] [] [.inl f0, .inl f1, .inl f2, .inl q.1, .inl q.2.1, .inl f5] [g0, g1, g2, q.2.2.1, g4, g5, g6, q.2.2.2.1, g8, g9, g10, q.2.2.2.2.1, q.2.2.2.2.2.1, q.2.2.2.2.2.2.1, q.2.2.2.2.2.2.2.1, g15, g16, q.2.2.2.2.2.2.2.2]) → good 102 [.inr 0, .inl x1, .inl x2, .inl x3, .inl x4, .inr 1000] [] [.inl f0, .inl f1, .inl f2, .inl f3, .inl f4, .inl f5] [g0, g1, g2, g3, g4, g5, g6, g7, g8, g9, g10, g11, g12, g13, g14, g15, g16, g17] := by
    intro n
    induction n with
    | zero => intro x1 x2 x3 x4 f1 f3 f4 g0 g2 g3 g4 g5 g7 g11 g12 g13 g14 g17 q h; exact absurd (show none = some q from h) (fun h => by cases h)
    | succ n ih =>
      intro x1 x2 x3 x4 f1 f3 f4 g0 g2 g3 g4 g5 g7 g11 g12 g13 g14 g17 q h hK
      replace h : zf_M_log_l2_b x1 x3 f0 f2 f5 g0 g2 g4 g6 g8 g9 g10 g15 g16 (zf_M_log_l2 x1 x3 f0 f2 f5 g0 g2 g4 g6 g8 g9 g10 g15 g16 n) x4 f3 f4 g3 g7 g11 g12 g13 g14 g17 = some q := h
      unfold zf_M_log_l2_b at h
      refine zv_ild hB zd314_102 rfl rfl ?_
      refine zv_con hB zd314_104 rfl ?_
      refine zv_cge hB zd314_107 rfl (fun hc17 => ?_) (fun hc17 => ?_)
      · rw [if_neg (Int.not_lt.mpr hc17)] at h
        have hq := Option.some.inj h
        subst hq
        refine zv_wk hB (L' := [.inr 0, .inl x1, .inl x2, .inl x3, .inr 1000, .inr 1000]) (F' := [.inl f0, .inl f1, .inl f2, .inl f3, .inl f4, .inl f5]) ⟨fun _ => rfl, fun _ => rfl, fun _ => rfl, fun _ => rfl, fun (h : zv_is (.inr 1000)) => (Nat.lt_irrefl 1000 h).elim, fun (h : zv_is (.inr 1000)) => (Nat.lt_irrefl 1000 h).elim, trivial⟩ ⟨fun _ => rfl, fun _ => rfl, fun _ => rfl, fun _ => rfl, fun _ => rfl, fun _ => rfl, trivial⟩ ?_
        exact hK
      · rw [if_pos hc17] at h
        refine zv_ald hB zd314_110 rfl rfl rfl ?_
        refine zv_getr hB zd314_111 rfl ?_
        refine zv_ild hB zd314_114 rfl rfl ?_
        obtain ⟨c18, h⟩ := zi_if h
        refine zv_iald hB zd314_116 rfl rfl (zi_ix_ok c18).1 (zi_ix_ok c18).2 (fun _ _ => ?_)
        refine zv_con hB zd314_117 rfl ?_
        refine zv_cne hB zd314_118 rfl (fun hc19 => ?_) (fun hc19 => ?_)
        · rw [if_neg hc19] at h
          refine zv_ald hB zd314_124 rfl rfl rfl ?_
          refine zv_ald hB zd314_125 rfl rfl rfl ?_
          refine zv_getr hB zd314_126 rfl ?_
          refine zv_ild hB zd314_129 rfl rfl ?_
          refine zv_iald hB zd314_131 rfl rfl (zi_ix_ok c18).1 (zi_ix_ok c18).2 (fun _ _ => ?_)
          obtain ⟨r20, hr20, h⟩ := zi_bind h
          refine zv_cv hB (zv_emq (va2 := [.inr 0, .inl (g3 x4)]) (F := [.inl f0, .inl f1, .inl f2, .inl f3, .inl f4, .inl f5]) (F' := [.inl f0, .inl f1, .inl f2, .inl r20.2.1, .inl r20.2.2.1, .inl f5]) (G := [g0, g1, g2, g3, g4, g5, g6, g7, g8, g9, g10, g11, g12, g13, g14, g15, g16, g17]) (G' := [g0, g1, g2, g3, g4, g5, g6, r20.2.2.2.1, g8, g9, g10, r20.2.2.2.2.1, r20.2.2.2.2.2.1, r20.2.2.2.2.2.2.1, r20.2.2.2.2.2.2.2.1, g15, g16, r20.2.2.2.2.2.2.2.2]) (ρ := [0, 5, 7, 8, 9, 10, 11, 12, 13, 14, 15, 16, 17, 18]) (φ := [2, 3, 4, 5, 0]) (ψ := [4, 6, 7, 8, 9, 10, 11, 12, 13, 14, 15, 16, 17]) [some 4, none, some 0, some 1, some 2, some 3] [none, none, none, none, some 0, none, some 1, some 2, some 3, some 4, some 5, some 6, some 7, some 8, some 9, some 10, some 11, some 12] zyw_M_canBeTold zyw_M_log zye_M_log (by decide +kernel) (zt_M_canBeTold hr20) ⟨⟨_, rfl, fun _ => rfl⟩, ⟨_, rfl, fun _ => rfl⟩, ⟨_, rfl, fun _ => rfl⟩, ⟨_, rfl, fun _ => rfl⟩, ⟨_, rfl, fun _ => rfl⟩, trivial⟩ ⟨rfl, rfl, rfl, rfl, rfl, rfl, rfl, rfl, rfl, rfl, rfl, rfl, rfl, trivial⟩ rfl rfl rfl rfl rfl rfl rfl) zd314_132 zxt272 rfl (by decide) (by decide) rfl ?_
          refine zv_ald hB zd314_135 rfl rfl rfl ?_
          refine zv_getr hB zd314_136 rfl ?_
          refine zv_ild hB zd314_139 rfl rfl ?_
          obtain ⟨c21, h⟩ := zi_if h
          refine zv_iald hB zd314_140 rfl rfl (zi_ix_ok c21).1 (zi_ix_ok c21).2 (fun _ _ => ?_)
          refine zv_con hB zd314_141 rfl ?_
          refine zv_cne hB zd314_142 rfl (fun hc22 => ?_) (fun hc22 => ?_)
          · rw [if_neg hc22] at h
            refine zv_con hB zd314_149 rfl ?_
            refine zv_ceq hB zd314_150 rfl (fun hc23 => ?_) (fun hc23 => ?_)
            · rw [if_pos hc23] at h
              refine zv_ild hB zd314_164 rfl rfl ?_
              refine zv_con hB zd314_165 rfl ?_
              refine zv_addw hB zd314_166 ?_
              refine zv_ild hB zd314_167 rfl rfl ?_
              refine zv_cge hB zd314_168 rfl (fun hc24 => ?_) (fun hc24 => ?_)
              · rw [if_neg (Int.not_lt.mpr hc24)] at h
                refine zv_ald hB zd314_194 rfl rfl rfl ?_
                refine zv_getr hB zd314_195 rfl ?_
                refine zv_ild hB zd314_198 rfl rfl ?_
                refine zv_iald hB zd314_200 rfl rfl (zi_ix_ok c18).1 (zi_ix_ok c18).2 (fun _ _ => ?_)
                refine zv_con hB zd314_201 rfl ?_
                refine zv_ceq hB zd314_202 rfl (fun hc => absurd hc (by omega)) (fun _ => ?_)
                refine zv_ald hB zd314_205 rfl rfl rfl ?_
                refine zv_ald hB zd314_206 rfl rfl rfl ?_
                refine zv_getr hB zd314_207 rfl ?_
                refine zv_ild hB zd314_210 rfl rfl ?_
                refine zv_iald hB zd314_212 rfl rfl (zi_ix_ok c18).1 (zi_ix_ok c18).2 (fun _ _ => ?_)
                obtain ⟨r26, hr26, h⟩ := zi_bind h
                refine zv_cv hB (zv_emq (va2 := [.inr 0, .inl (g3 x4)]) (F := [.inl f0, .inl f1, .inl f2, .inl r20.2.1, .inl r20.2.2.1, .inl f5]) (F' := [.inl f0, .inl f1, .inl f2, .inl r20.2.1, .inl r20.2.2.1, .inl f5]) (G := [g0, g1, g2, g3, g4, g5, g6, r20.2.2.2.1, g8, g9, g10, r20.2.2.2.2.1, r20.2.2.2.2.2.1, r20.2.2.2.2.2.2.1, r20.2.2.2.2.2.2.2.1, g15, g16, r20.2.2.2.2.2.2.2.2]) (G' := [g0, g1, g2, g3, g4, g5, g6, r20.2.2.2.1, g8, g9, g10, r20.2.2.2.2.1, r20.2.2.2.2.2.1, r20.2.2.2.2.2.2.1, r20.2.2.2.2.2.2.2.1, g15, g16, r20.2.2.2.2.2.2.2.2]) (ρ := [0, 5]) (φ := []) (ψ := [4]) [none, none, none, none, none, none] [none, none, none, none, some 0, none, none, none, none, none, none, none, none, none, none, none, none, none] zyw_M_isLand zyw_M_log zye_M_log (by decide +kernel) (zt_M_isLand hr26) trivial ⟨rfl, trivial⟩ rfl rfl rfl rfl rfl rfl rfl) zd314_213 zxt212 rfl (by decide) (by decide) rfl ?_
                refine zv_zeq hB zd314_216 rfl (fun hc27 => ?_) (fun hc27 => ?_)
                · rw [if_pos hc27] at h
                  refine zv_iincw hB zd314_227 rfl rfl ?_
                  refine zv_goto hB zd314_230 rfl ?_
                  exact ih _ _ _ _ _ _ _ _ _ _ _ _ _ _ _ _ _ _ q h hK
                · rw [if_neg hc27] at h
                  refine zv_ald hB zd314_219 rfl rfl rfl ?_
                  refine zv_getr hB zd314_220 rfl ?_
                  refine zv_ild hB zd314_223 rfl rfl ?_
                  refine zv_con hB zd314_225 rfl ?_
                  refine zv_iast hB zd314_226 rfl rfl (zi_ix_ok c18).1 (zi_ix_ok c18).2 ?_
                  refine zv_iincw hB zd314_227 rfl rfl ?_
                  refine zv_goto hB zd314_230 rfl ?_
                  exact ih _ _ _ _ _ _ _ _ _ _ _ _ _ _ _ _ _ _ q h hK
              · rw [if_pos hc24] at h
                refine zv_ald hB zd314_171 rfl rfl rfl ?_
                refine zv_getr hB zd314_172 rfl ?_
                refine zv_ild hB zd314_175 rfl rfl ?_
                refine zv_ald hB zd314_177 rfl rfl rfl ?_
                refine zv_getr hB zd314_178 rfl ?_
                refine zv_ild hB zd314_181 rfl rfl ?_
                refine zv_iald hB zd314_183 rfl rfl (zi_ix_ok c18).1 (zi_ix_ok c18).2 (fun _ _ => ?_)
                refine zv_ald hB zd314_184 rfl rfl rfl ?_
                refine zv_getr hB zd314_185 rfl ?_
                refine zv_ild hB zd314_188 rfl rfl ?_
                refine zv_iald hB zd314_189 rfl rfl (zi_ix_ok c21).1 (zi_ix_ok c21).2 (fun _ _ => ?_)
                obtain ⟨r28, hr28, h⟩ := zi_bind h
                refine zv_cs hB (zv_emq (va2 := [.inl (g3 x4), .inl (g2 x3)]) (F := [.inl f0, .inl f1, .inl f2, .inl r20.2.1, .inl r20.2.2.1, .inl f5]) (F' := [.inl f0, .inl f1, .inl f2, .inl r20.2.1, .inl r20.2.2.1, .inl f5]) (G := [g0, g1, g2, g3, g4, g5, g6, r20.2.2.2.1, g8, g9, g10, r20.2.2.2.2.1, r20.2.2.2.2.2.1, r20.2.2.2.2.2.2.1, r20.2.2.2.2.2.2.2.1, g15, g16, r20.2.2.2.2.2.2.2.2]) (G' := [g0, g1, g2, g3, g4, g5, g6, r20.2.2.2.1, g8, g9, g10, r20.2.2.2.2.1, r20.2.2.2.2.2.1, r20.2.2.2.2.2.2.1, r20.2.2.2.2.2.2.2.1, g15, g16, r20.2.2.2.2.2.2.2.2]) (ρ := []) (φ := []) (ψ := []) [none, none, none, none, none, none] [none, none, none, none, none, none, none, none, none, none, none, none, none, none, none, none, none, none] zyw_M_goesTo zyw_M_log zye_M_log (by decide +kernel) (zt_M_goesTo hr28) trivial trivial rfl rfl rfl rfl rfl rfl rfl) zd314_190 zxt304 rfl (by decide) (by decide) rfl ?_
                refine zv_iast hB zd314_193 rfl rfl (zi_ix_ok c18).1 (zi_ix_ok c18).2 ?_
                refine zv_ald hB zd314_194 rfl rfl rfl ?_
                refine zv_getr hB zd314_195 rfl ?_
                refine zv_ild hB zd314_198 rfl rfl ?_
                refine zv_iald hB zd314_200 rfl rfl (zi_ix_ok c18).1 (zi_ix_ok c18).2 (fun _ _ => ?_)
                refine zv_con hB zd314_201 rfl ?_
                refine zv_ceq hB zd314_202 rfl (fun hc29 => ?_) (fun hc29 => ?_)
                · rw [if_pos hc29] at h
                  refine zv_iincw hB zd314_227 rfl rfl ?_
                  refine zv_goto hB zd314_230 rfl ?_
                  exact ih _ _ _ _ _ _ _ _ _ _ _ _ _ _ _ _ _ _ q h hK
                · rw [if_neg hc29] at h
                  refine zv_ald hB zd314_205 rfl rfl rfl ?_
                  refine zv_ald hB zd314_206 rfl rfl rfl ?_
                  refine zv_getr hB zd314_207 rfl ?_
                  refine zv_ild hB zd314_210 rfl rfl ?_
                  refine zv_iald hB zd314_212 rfl rfl (zi_ix_ok c18).1 (zi_ix_ok c18).2 (fun _ _ => ?_)
                  obtain ⟨r30, hr30, h⟩ := zi_bind h
                  refine zv_cv hB (zv_emq (va2 := [.inr 0, .inl ((zv_up g3 x4 r28) x4)]) (F := [.inl f0, .inl f1, .inl f2, .inl r20.2.1, .inl r20.2.2.1, .inl f5]) (F' := [.inl f0, .inl f1, .inl f2, .inl r20.2.1, .inl r20.2.2.1, .inl f5]) (G := [g0, g1, g2, (zv_up g3 x4 r28), g4, g5, g6, r20.2.2.2.1, g8, g9, g10, r20.2.2.2.2.1, r20.2.2.2.2.2.1, r20.2.2.2.2.2.2.1, r20.2.2.2.2.2.2.2.1, g15, g16, r20.2.2.2.2.2.2.2.2]) (G' := [g0, g1, g2, (zv_up g3 x4 r28), g4, g5, g6, r20.2.2.2.1, g8, g9, g10, r20.2.2.2.2.1, r20.2.2.2.2.2.1, r20.2.2.2.2.2.2.1, r20.2.2.2.2.2.2.2.1, g15, g16, r20.2.2.2.2.2.2.2.2]) (ρ := [0, 5]) (φ := []) (ψ := [4]) [none, none, none, none, none, none] [none, none, none, none, some 0, none, none, none, none, none, none, none, none, none, none, none, none, none] zyw_M_isLand zyw_M_log zye_M_log (by decide +kernel) (zt_M_isLand hr30) trivial ⟨rfl, trivial⟩ rfl rfl rfl rfl rfl rfl rfl) zd314_213 zxt212 rfl (by decide) (by decide) rfl ?_
                  refine zv_zeq hB zd314_216 rfl (fun hc31 => ?_) (fun hc31 => ?_)
                  · rw [if_pos hc31] at h
                    refine zv_iincw hB zd314_227 rfl rfl ?_
                    refine zv_goto hB zd314_230 rfl ?_
                    exact ih _ _ _ _ _ _ _ _ _ _ _ _ _ _ _ _ _ _ q h hK
                  · rw [if_neg hc31] at h
                    refine zv_ald hB zd314_219 rfl rfl rfl ?_
                    refine zv_getr hB zd314_220 rfl ?_
                    refine zv_ild hB zd314_223 rfl rfl ?_
                    refine zv_con hB zd314_225 rfl ?_
                    refine zv_iast hB zd314_226 rfl rfl (zi_ix_ok c18).1 (zi_ix_ok c18).2 ?_
                    refine zv_iincw hB zd314_227 rfl rfl ?_
                    refine zv_goto hB zd314_230 rfl ?_
                    exact ih _ _ _ _ _ _ _ _ _ _ _ _ _ _ _ _ _ _ q h hK
            · rw [if_neg hc23] at h
              refine zv_ald hB zd314_153 rfl rfl rfl ?_
              refine zv_getr hB zd314_154 rfl ?_
              refine zv_ild hB zd314_157 rfl rfl ?_
              refine zv_con hB zd314_159 rfl ?_
              refine zv_iast hB zd314_160 rfl rfl (zi_ix_ok c18).1 (zi_ix_ok c18).2 ?_
              refine zv_goto hB zd314_161 rfl ?_
              refine zv_ald hB zd314_194 rfl rfl rfl ?_
              refine zv_getr hB zd314_195 rfl ?_
              refine zv_ild hB zd314_198 rfl rfl ?_
              refine zv_iald hB zd314_200 rfl rfl (zi_ix_ok c18).1 (zi_ix_ok c18).2 (fun _ _ => ?_)
              refine zv_con hB zd314_201 rfl ?_
              refine zv_ceq hB zd314_202 rfl (fun hc32 => ?_) (fun hc32 => ?_)
              · rw [if_pos hc32] at h
                refine zv_iincw hB zd314_227 rfl rfl ?_
                refine zv_goto hB zd314_230 rfl ?_
                exact ih _ _ _ _ _ _ _ _ _ _ _ _ _ _ _ _ _ _ q h hK
              · rw [if_neg hc32] at h
                refine zv_ald hB zd314_205 rfl rfl rfl ?_
                refine zv_ald hB zd314_206 rfl rfl rfl ?_
                refine zv_getr hB zd314_207 rfl ?_
                refine zv_ild hB zd314_210 rfl rfl ?_
                refine zv_iald hB zd314_212 rfl rfl (zi_ix_ok c18).1 (zi_ix_ok c18).2 (fun _ _ => ?_)
                obtain ⟨r33, hr33, h⟩ := zi_bind h
                refine zv_cv hB (zv_emq (va2 := [.inr 0, .inl ((zv_up g3 x4 (-1)) x4)]) (F := [.inl f0, .inl f1, .inl f2, .inl r20.2.1, .inl r20.2.2.1, .inl f5]) (F' := [.inl f0, .inl f1, .inl f2, .inl r20.2.1, .inl r20.2.2.1, .inl f5]) (G := [g0, g1, g2, (zv_up g3 x4 (-1)), g4, g5, g6, r20.2.2.2.1, g8, g9, g10, r20.2.2.2.2.1, r20.2.2.2.2.2.1, r20.2.2.2.2.2.2.1, r20.2.2.2.2.2.2.2.1, g15, g16, r20.2.2.2.2.2.2.2.2]) (G' := [g0, g1, g2, (zv_up g3 x4 (-1)), g4, g5, g6, r20.2.2.2.1, g8, g9, g10, r20.2.2.2.2.1, r20.2.2.2.2.2.1, r20.2.2.2.2.2.2.1, r20.2.2.2.2.2.2.2.1, g15, g16, r20.2.2.2.2.2.2.2.2]) (ρ := [0, 5]) (φ := []) (ψ := [4]) [none, none, none, none, none, none] [none, none, none, none, some 0, none, none, none, none, none, none, none, none, none, none, none, none, none] zyw_M_isLand zyw_M_log zye_M_log (by decide +kernel) (zt_M_isLand hr33) trivial ⟨rfl, trivial⟩ rfl rfl rfl rfl rfl rfl rfl) zd314_213 zxt212 rfl (by decide) (by decide) rfl ?_
                refine zv_zeq hB zd314_216 rfl (fun hc34 => ?_) (fun hc34 => ?_)
                · rw [if_pos hc34] at h
                  refine zv_iincw hB zd314_227 rfl rfl ?_
                  refine zv_goto hB zd314_230 rfl ?_
                  exact ih _ _ _ _ _ _ _ _ _ _ _ _ _ _ _ _ _ _ q h hK
                · rw [if_neg hc34] at h
                  refine zv_ald hB zd314_219 rfl rfl rfl ?_
                  refine zv_getr hB zd314_220 rfl ?_
                  refine zv_ild hB zd314_223 rfl rfl ?_
                  refine zv_con hB zd314_225 rfl ?_
                  refine zv_iast hB zd314_226 rfl rfl (zi_ix_ok c18).1 (zi_ix_ok c18).2 ?_
                  refine zv_iincw hB zd314_227 rfl rfl ?_
                  refine zv_goto hB zd314_230 rfl ?_
                  exact ih _ _ _ _ _ _ _ _ _ _ _ _ _ _ _ _ _ _ q h hK
          · rw [if_pos hc22] at h
            refine zv_con hB zd314_145 rfl ?_
            refine zv_goto hB zd314_146 rfl ?_
            refine zv_ceq hB zd314_150 rfl (fun hc35 => ?_) (fun hc35 => ?_)
            · rw [if_pos hc35] at h
              refine zv_ild hB zd314_164 rfl rfl ?_
              refine zv_con hB zd314_165 rfl ?_
              refine zv_addw hB zd314_166 ?_
              refine zv_ild hB zd314_167 rfl rfl ?_
              refine zv_cge hB zd314_168 rfl (fun hc36 => ?_) (fun hc36 => ?_)
              · rw [if_neg (Int.not_lt.mpr hc36)] at h
                refine zv_ald hB zd314_194 rfl rfl rfl ?_
                refine zv_getr hB zd314_195 rfl ?_
                refine zv_ild hB zd314_198 rfl rfl ?_
                refine zv_iald hB zd314_200 rfl rfl (zi_ix_ok c18).1 (zi_ix_ok c18).2 (fun _ _ => ?_)
                refine zv_con hB zd314_201 rfl ?_
                refine zv_ceq hB zd314_202 rfl (fun hc => absurd hc (by omega)) (fun _ => ?_)
                refine zv_ald hB zd314_205 rfl rfl rfl ?_
                refine zv_ald hB zd314_206 rfl rfl rfl ?_
                refine zv_getr hB zd314_207 rfl ?_
                refine zv_ild hB zd314_210 rfl rfl ?_
                refine zv_iald hB zd314_212 rfl rfl (zi_ix_ok c18).1 (zi_ix_ok c18).2 (fun _ _ => ?_)
                obtain ⟨r38, hr38, h⟩ := zi_bind h
                refine zv_cv hB (zv_emq (va2 := [.inr 0, .inl (g3 x4)]) (F := [.inl f0, .inl f1, .inl f2, .inl r20.2.1, .inl r20.2.2.1, .inl f5]) (F' := [.inl f0, .inl f1, .inl f2, .inl r20.2.1, .inl r20.2.2.1, .inl f5]) (G := [g0, g1, g2, g3, g4, g5, g6, r20.2.2.2.1, g8, g9, g10, r20.2.2.2.2.1, r20.2.2.2.2.2.1, r20.2.2.2.2.2.2.1, r20.2.2.2.2.2.2.2.1, g15, g16, r20.2.2.2.2.2.2.2.2]) (G' := [g0, g1, g2, g3, g4, g5, g6, r20.2.2.2.1, g8, g9, g10, r20.2.2.2.2.1, r20.2.2.2.2.2.1, r20.2.2.2.2.2.2.1, r20.2.2.2.2.2.2.2.1, g15, g16, r20.2.2.2.2.2.2.2.2]) (ρ := [0, 5]) (φ := []) (ψ := [4]) [none, none, none, none, none, none] [none, none, none, none, some 0, none, none, none, none, none, none, none, none, none, none, none, none, none] zyw_M_isLand zyw_M_log zye_M_log (by decide +kernel) (zt_M_isLand hr38) trivial ⟨rfl, trivial⟩ rfl rfl rfl rfl rfl rfl rfl) zd314_213 zxt212 rfl (by decide) (by decide) rfl ?_
                refine zv_zeq hB zd314_216 rfl (fun hc39 => ?_) (fun hc39 => ?_)
                · rw [if_pos hc39] at h
                  refine zv_iincw hB zd314_227 rfl rfl ?_
                  refine zv_goto hB zd314_230 rfl ?_
                  exact ih _ _ _ _ _ _ _ _ _ _ _ _ _ _ _ _ _ _ q h hK
                · rw [if_neg hc39] at h
                  refine zv_ald hB zd314_219 rfl rfl rfl ?_
                  refine zv_getr hB zd314_220 rfl ?_
                  refine zv_ild hB zd314_223 rfl rfl ?_
                  refine zv_con hB zd314_225 rfl ?_
                  refine zv_iast hB zd314_226 rfl rfl (zi_ix_ok c18).1 (zi_ix_ok c18).2 ?_
                  refine zv_iincw hB zd314_227 rfl rfl ?_
                  refine zv_goto hB zd314_230 rfl ?_
                  exact ih _ _ _ _ _ _ _ _ _ _ _ _ _ _ _ _ _ _ q h hK
              · rw [if_pos hc36] at h
                refine zv_ald hB zd314_171 rfl rfl rfl ?_
                refine zv_getr hB zd314_172 rfl ?_
                refine zv_ild hB zd314_175 rfl rfl ?_
                refine zv_ald hB zd314_177 rfl rfl rfl ?_
                refine zv_getr hB zd314_178 rfl ?_
                refine zv_ild hB zd314_181 rfl rfl ?_
                refine zv_iald hB zd314_183 rfl rfl (zi_ix_ok c18).1 (zi_ix_ok c18).2 (fun _ _ => ?_)
                refine zv_ald hB zd314_184 rfl rfl rfl ?_
                refine zv_getr hB zd314_185 rfl ?_
                refine zv_ild hB zd314_188 rfl rfl ?_
                refine zv_iald hB zd314_189 rfl rfl (zi_ix_ok c21).1 (zi_ix_ok c21).2 (fun _ _ => ?_)
                obtain ⟨r40, hr40, h⟩ := zi_bind h
                refine zv_cs hB (zv_emq (va2 := [.inl (g3 x4), .inl (g2 x3)]) (F := [.inl f0, .inl f1, .inl f2, .inl r20.2.1, .inl r20.2.2.1, .inl f5]) (F' := [.inl f0, .inl f1, .inl f2, .inl r20.2.1, .inl r20.2.2.1, .inl f5]) (G := [g0, g1, g2, g3, g4, g5, g6, r20.2.2.2.1, g8, g9, g10, r20.2.2.2.2.1, r20.2.2.2.2.2.1, r20.2.2.2.2.2.2.1, r20.2.2.2.2.2.2.2.1, g15, g16, r20.2.2.2.2.2.2.2.2]) (G' := [g0, g1, g2, g3, g4, g5, g6, r20.2.2.2.1, g8, g9, g10, r20.2.2.2.2.1, r20.2.2.2.2.2.1, r20.2.2.2.2.2.2.1, r20.2.2.2.2.2.2.2.1, g15, g16, r20.2.2.2.2.2.2.2.2]) (ρ := []) (φ := []) (ψ := []) [none, none, none, none, none, none] [none, none, none, none, none, none, none, none, none, none, none, none, none, none, none, none, none, none] zyw_M_goesTo zyw_M_log zye_M_log (by decide +kernel) (zt_M_goesTo hr40) trivial trivial rfl rfl rfl rfl rfl rfl rfl) zd314_190 zxt304 rfl (by decide) (by decide) rfl ?_
                refine zv_iast hB zd314_193 rfl rfl (zi_ix_ok c18).1 (zi_ix_ok c18).2 ?_
                refine zv_ald hB zd314_194 rfl rfl rfl ?_
                refine zv_getr hB zd314_195 rfl ?_
                refine zv_ild hB zd314_198 rfl rfl ?_
                refine zv_iald hB zd314_200 rfl rfl (zi_ix_ok c18).1 (zi_ix_ok c18).2 (fun _ _ => ?_)
                refine zv_con hB zd314_201 rfl ?_
                refine zv_ceq hB zd314_202 rfl (fun hc41 => ?_) (fun hc41 => ?_)
                · rw [if_pos hc41] at h
                  refine zv_iincw hB zd314_227 rfl rfl ?_
                  refine zv_goto hB zd314_230 rfl ?_
                  exact ih _ _ _ _ _ _ _ _ _ _ _ _ _ _ _ _ _ _ q h hK
                · rw [if_neg hc41] at h
                  refine zv_ald hB zd314_205 rfl rfl rfl ?_
                  refine zv_ald hB zd314_206 rfl rfl rfl ?_
                  refine zv_getr hB zd314_207 rfl ?_
                  refine zv_ild hB zd314_210 rfl rfl ?_
                  refine zv_iald hB zd314_212 rfl rfl (zi_ix_ok c18).1 (zi_ix_ok c18).2 (fun _ _ => ?_)
                  obtain ⟨r42, hr42, h⟩ := zi_bind h
                  refine zv_cv hB (zv_emq (va2 := [.inr 0, .inl ((zv_up g3 x4 r40) x4)]) (F := [.inl f0, .inl f1, .inl f2, .inl r20.2.1, .inl r20.2.2.1, .inl f5]) (F' := [.inl f0, .inl f1, .inl f2, .inl r20.2.1, .inl r20.2.2.1, .inl f5]) (G := [g0, g1, g2, (zv_up g3 x4 r40), g4, g5, g6, r20.2.2.2.1, g8, g9, g10, r20.2.2.2.2.1, r20.2.2.2.2.2.1, r20.2.2.2.2.2.2.1, r20.2.2.2.2.2.2.2.1, g15, g16, r20.2.2.2.2.2.2.2.2]) (G' := [g0, g1, g2, (zv_up g3 x4 r40), g4, g5, g6, r20.2.2.2.1, g8, g9, g10, r20.2.2.2.2.1, r20.2.2.2.2.2.1, r20.2.2.2.2.2.2.1, r20.2.2.2.2.2.2.2.1, g15, g16, r20.2.2.2.2.2.2.2.2]) (ρ := [0, 5]) (φ := []) (ψ := [4]) [none, none, none, none, none, none] [none, none, none, none, some 0, none, none, none, none, none, none, none, none, none, none, none, none, none] zyw_M_isLand zyw_M_log zye_M_log (by decide +kernel) (zt_M_isLand hr42) trivial ⟨rfl, trivial⟩ rfl rfl rfl rfl rfl rfl rfl) zd314_213 zxt212 rfl (by decide) (by decide) rfl ?_
                  refine zv_zeq hB zd314_216 rfl (fun hc43 => ?_) (fun hc43 => ?_)
                  · rw [if_pos hc43] at h
                    refine zv_iincw hB zd314_227 rfl rfl ?_
                    refine zv_goto hB zd314_230 rfl ?_
                    exact ih _ _ _ _ _ _ _ _ _ _ _ _ _ _ _ _ _ _ q h hK
                  · rw [if_neg hc43] at h
                    refine zv_ald hB zd314_219 rfl rfl rfl ?_
                    refine zv_getr hB zd314_220 rfl ?_
                    refine zv_ild hB zd314_223 rfl rfl ?_
                    refine zv_con hB zd314_225 rfl ?_
                    refine zv_iast hB zd314_226 rfl rfl (zi_ix_ok c18).1 (zi_ix_ok c18).2 ?_
                    refine zv_iincw hB zd314_227 rfl rfl ?_
                    refine zv_goto hB zd314_230 rfl ?_
                    exact ih _ _ _ _ _ _ _ _ _ _ _ _ _ _ _ _ _ _ q h hK
            · rw [if_neg hc35] at h
              refine zv_ald hB zd314_153 rfl rfl rfl ?_
              refine zv_getr hB zd314_154 rfl ?_
              refine zv_ild hB zd314_157 rfl rfl ?_
              refine zv_con hB zd314_159 rfl ?_
              refine zv_iast hB zd314_160 rfl rfl (zi_ix_ok c18).1 (zi_ix_ok c18).2 ?_
              refine zv_goto hB zd314_161 rfl ?_
              refine zv_ald hB zd314_194 rfl rfl rfl ?_
              refine zv_getr hB zd314_195 rfl ?_
              refine zv_ild hB zd314_198 rfl rfl ?_
              refine zv_iald hB zd314_200 rfl rfl (zi_ix_ok c18).1 (zi_ix_ok c18).2 (fun _ _ => ?_)
              refine zv_con hB zd314_201 rfl ?_
              refine zv_ceq hB zd314_202 rfl (fun hc44 => ?_) (fun hc44 => ?_)
              · rw [if_pos hc44] at h
                refine zv_iincw hB zd314_227 rfl rfl ?_
                refine zv_goto hB zd314_230 rfl ?_
                exact ih _ _ _ _ _ _ _ _ _ _ _ _ _ _ _ _ _ _ q h hK
              · rw [if_neg hc44] at h
                refine zv_ald hB zd314_205 rfl rfl rfl ?_
                refine zv_ald hB zd314_206 rfl rfl rfl ?_
                refine zv_getr hB zd314_207 rfl ?_
                refine zv_ild hB zd314_210 rfl rfl ?_
                refine zv_iald hB zd314_212 rfl rfl (zi_ix_ok c18).1 (zi_ix_ok c18).2 (fun _ _ => ?_)
                obtain ⟨r45, hr45, h⟩ := zi_bind h
                refine zv_cv hB (zv_emq (va2 := [.inr 0, .inl ((zv_up g3 x4 (-1)) x4)]) (F := [.inl f0, .inl f1, .inl f2, .inl r20.2.1, .inl r20.2.2.1, .inl f5]) (F' := [.inl f0, .inl f1, .inl f2, .inl r20.2.1, .inl r20.2.2.1, .inl f5]) (G := [g0, g1, g2, (zv_up g3 x4 (-1)), g4, g5, g6, r20.2.2.2.1, g8, g9, g10, r20.2.2.2.2.1, r20.2.2.2.2.2.1, r20.2.2.2.2.2.2.1, r20.2.2.2.2.2.2.2.1, g15, g16, r20.2.2.2.2.2.2.2.2]) (G' := [g0, g1, g2, (zv_up g3 x4 (-1)), g4, g5, g6, r20.2.2.2.1, g8, g9, g10, r20.2.2.2.2.1, r20.2.2.2.2.2.1, r20.2.2.2.2.2.2.1, r20.2.2.2.2.2.2.2.1, g15, g16, r20.2.2.2.2.2.2.2.2]) (ρ := [0, 5]) (φ := []) (ψ := [4]) [none, none, none, none, none, none] [none, none, none, none, some 0, none, none, none, none, none, none, none, none, none, none, none, none, none] zyw_M_isLand zyw_M_log zye_M_log (by decide +kernel) (zt_M_isLand hr45) trivial ⟨rfl, trivial⟩ rfl rfl rfl rfl rfl rfl rfl) zd314_213 zxt212 rfl (by decide) (by decide) rfl ?_
                refine zv_zeq hB zd314_216 rfl (fun hc46 => ?_) (fun hc46 => ?_)
                · rw [if_pos hc46] at h
                  refine zv_iincw hB zd314_227 rfl rfl ?_
                  refine zv_goto hB zd314_230 rfl ?_
                  exact ih _ _ _ _ _ _ _ _ _ _ _ _ _ _ _ _ _ _ q h hK
                · rw [if_neg hc46] at h
                  refine zv_ald hB zd314_219 rfl rfl rfl ?_
                  refine zv_getr hB zd314_220 rfl ?_
                  refine zv_ild hB zd314_223 rfl rfl ?_
                  refine zv_con hB zd314_225 rfl ?_
                  refine zv_iast hB zd314_226 rfl rfl (zi_ix_ok c18).1 (zi_ix_ok c18).2 ?_
                  refine zv_iincw hB zd314_227 rfl rfl ?_
                  refine zv_goto hB zd314_230 rfl ?_
                  exact ih _ _ _ _ _ _ _ _ _ _ _ _ _ _ _ _ _ _ q h hK
        · rw [if_pos hc19] at h
          refine zv_goto hB zd314_121 rfl ?_
          refine zv_iincw hB zd314_227 rfl rfl ?_
          refine zv_goto hB zd314_230 rfl ?_
          exact ih _ _ _ _ _ _ _ _ _ _ _ _ _ _ _ _ _ _ q h hK
  have l1 : ∀ (n : Nat) (x1 : Int) (x2 : Int) (x3 : Int) (f1 : Int) (f3 : Int) (f4 : Int) (g0 : (Int → Int)) (g2 : (Int → Int)) (g3 : (Int → Int)) (g4 : (Int → Int)) (g5 : (Int → Int)) (g7 : (Int → Int)) (g11 : (Int → Int)) (g12 : (Int → Int)) (g13 : (Int → Int)) (g14 : (Int → Int)) (g17 : (Int → Int)) (q : Int × Int × (Int → Int) × (Int → Int) × (Int → Int) × (Int → Int) × (Int → Int) × (Int → Int) × (Int → Int) × (Int → Int)), zf_M_log_l1 x1 f0 f2 f5 g0 g2 g6 g8 g9 g10 g15 g16 n x3 f3 f4 g3 g4 g7 g11 g12 g13 g14 g17 = some q → (good 243 [.inr 0, .inr 1000, .inl x2, .inr 1000, .inr 1000, .inr 1000] [] [.inl f0, .inl f1, .inl f2, .inl q.1, .inl q.2.1, .inl f5] [g0, g1, g2, q.2.2.1, q.2.2.2.1, g5, g6, q.2.2.2.2.1, g8, g9, g10, q.2.2.2.2.2.1, q.2.2.2.2.2.2.1, q.2.2.2.2.2.2.2.1, q.2.2.2.2.2.2.2.2.1, g15, g16, q.2.2.2.2.2.2.2.2.2]) → good 94 [.inr 0, .inl x1, .inl x2, .inl x3, .inr 1000, .inr 1000] [] [.inl f0, .inl f1, .inl f2, .inl f3, .inl f4, .inl f5] [g0, g1, g2, g3, g4, g5, g6, g7, g8, g9, g10, g11, g12, g13, g14, g15, g16, g17] := by
    intro n
    induction n with
    | zero => intro x1 x2 x3 f1 f3 f4 g0 g2 g3 g4 g5 g7 g11 g12 g13 g14 g17 q h; exact absurd (show none = some q from h) (fun h => by cases h)
    | succ n ih =>
      intro x1 x2 x3 f1 f3 f4 g0 g2 g3 g4 g5 g7 g11 g12 g13 g14 g17 q h hK
      replace h : zf_M_log_l1_b x1 f0 f2 f5 g0 g2 g6 g8 g9 g10 g15 g16 (zf_M_log_l1 x1 f0 f2 f5 g0 g2 g6 g8 g9 g10 g15 g16 n) x3 f3 f4 g3 g4 g7 g11 g12 g13 g14 g17 = some q := h
      unfold zf_M_log_l1_b at h
      refine zv_ild hB zd314_94 rfl rfl ?_
      refine zv_ild hB zd314_95 rfl rfl ?_
      refine zv_cge hB zd314_96 rfl (fun hc16 => ?_) (fun hc16 => ?_)
      · rw [if_neg (Int.not_lt.mpr hc16)] at h
        have hq := Option.some.inj h
        subst hq
        refine zv_wk hB (L' := [.inr 0, .inr 1000, .inl x2, .inr 1000, .inr 1000, .inr 1000]) (F' := [.inl f0, .inl f1, .inl f2, .inl f3, .inl f4, .inl f5]) ⟨fun _ => rfl, fun (h : zv_is (.inr 1000)) => (Nat.lt_irrefl 1000 h).elim, fun _ => rfl, fun (h : zv_is (.inr 1000)) => (Nat.lt_irrefl 1000 h).elim, fun (h : zv_is (.inr 1000)) => (Nat.lt_irrefl 1000 h).elim, fun (h : zv_is (.inr 1000)) => (Nat.lt_irrefl 1000 h).elim, trivial⟩ ⟨fun _ => rfl, fun _ => rfl, fun _ => rfl, fun _ => rfl, fun _ => rfl, fun _ => rfl, trivial⟩ ?_
        exact hK
      · rw [if_pos hc16] at h
        refine zv_con hB zd314_99 rfl ?_
        refine zv_ist hB zd314_100 rfl rfl rfl ?_
        obtain ⟨q47, hq47, h⟩ := zi_bind h
        refine l2 _ _ _ _ _ _ _ _ _ _ _ _ _ _ _ _ _ _ _ q47 hq47 ?_
        show good 233 [.inr 0, .inl x1, .inl x2, .inl x3, .inr 1000, .inr 1000] [] [.inl f0, .inl f1, .inl f2, .inl q47.1, .inl q47.2.1, .inl f5] [g0, g1, g2, q47.2.2.1, g4, g5, g6, q47.2.2.2.1, g8, g9, g10, q47.2.2.2.2.1, q47.2.2.2.2.2.1, q47.2.2.2.2.2.2.1, q47.2.2.2.2.2.2.2.1, g15, g16, q47.2.2.2.2.2.2.2.2]
        refine zv_ald hB zd314_233 rfl rfl rfl ?_
        obtain ⟨r48, hr48, h⟩ := zi_bind h
        refine zv_cv hB (zv_emq (va2 := [.inr 0]) (F := [.inl f0, .inl f1, .inl f2, .inl q47.1, .inl q47.2.1, .inl f5]) (F' := [.inl f0, .inl f1, .inl f2, .inl q47.1, .inl q47.2.1, .inl f5]) (G := [g0, g1, g2, q47.2.2.1, g4, g5, g6, q47.2.2.2.1, g8, g9, g10, q47.2.2.2.2.1, q47.2.2.2.2.2.1, q47.2.2.2.2.2.2.1, q47.2.2.2.2.2.2.2.1, g15, g16, q47.2.2.2.2.2.2.2.2]) (G' := [g0, g1, g2, q47.2.2.1, r48, g5, g6, q47.2.2.2.1, g8, g9, g10, q47.2.2.2.2.1, q47.2.2.2.2.2.1, q47.2.2.2.2.2.2.1, q47.2.2.2.2.2.2.2.1, g15, g16, q47.2.2.2.2.2.2.2.2]) (ρ := [0, 5]) (φ := []) (ψ := [4]) [none, none, none, none, none, none] [none, none, none, none, some 0, none, none, none, none, none, none, none, none, none, none, none, none, none] zyw_M_passes zyw_M_log zye_M_log (by decide +kernel) (zt_M_passes hr48) trivial ⟨rfl, trivial⟩ rfl rfl rfl rfl rfl rfl rfl) zd314_234 zxt294 rfl (by decide) (by decide) rfl ?_
        refine zv_iincw hB zd314_237 rfl rfl ?_
        refine zv_goto hB zd314_240 rfl ?_
        exact ih _ _ _ _ _ _ _ _ _ _ _ _ _ _ _ _ _ q h hK
  have l3 : ∀ (n : Nat) (x2 : Int) (x3 : Int) (x4 : Int) (x5 : Int) (f1 : Int) (f3 : Int) (f4 : Int) (g0 : (Int → Int)) (g2 : (Int → Int)) (g3 : (Int → Int)) (g4 : (Int → Int)) (g5 : (Int → Int)) (g7 : (Int → Int)) (g11 : (Int → Int)) (g12 : (Int → Int)) (g13 : (Int → Int)) (g14 : (Int → Int)) (g17 : (Int → Int)) (q : Int × Int), zf_M_log_l3 g3 n x3 x4 x5 = some q → (good 301 [.inr 1000, .inr 1000, .inl x2, .inl q.1, .inl q.2, .inr 1000] [] [.inl f0, .inl f1, .inl f2, .inl f3, .inl f4, .inl f5] [g0, g1, g2, g3, g4, g5, g6, g7, g8, g9, g10, g11, g12, g13, g14, g15, g16, g17]) → good 256 [.inr 0, .inr 1000, .inl x2, .inl x3, .inl x4, .inl x5] [] [.inl f0, .inl f1, .inl f2, .inl f3, .inl f4, .inl f5] [g0, g1, g2, g3, g4, g5, g6, g7, g8, g9, g10, g11, g12, g13, g14, g15, g16, g17] := by
    intro n
    induction n with
    | zero => intro x2 x3 x4 x5 f1 f3 f4 g0 g2 g3 g4 g5 g7 g11 g12 g13 g14 g17 q h; exact absurd (show none = some q from h) (fun h => by cases h)
    | succ n ih =>
      intro x2 x3 x4 x5 f1 f3 f4 g0 g2 g3 g4 g5 g7 g11 g12 g13 g14 g17 q h hK
      replace h : zf_M_log_l3_b g3 (zf_M_log_l3 g3 n) x3 x4 x5 = some q := h
      unfold zf_M_log_l3_b at h
      refine zv_ild hB zd314_256 rfl rfl ?_
      refine zv_con hB zd314_258 rfl ?_
      refine zv_cge hB zd314_261 rfl (fun hc51 => ?_) (fun hc51 => ?_)
      · rw [if_neg (Int.not_lt.mpr hc51)] at h
        have hq := Option.some.inj h
        subst hq
        refine zv_wk hB (L' := [.inr 1000, .inr 1000, .inl x2, .inl x3, .inl x4, .inr 1000]) (F' := [.inl f0, .inl f1, .inl f2, .inl f3, .inl f4, .inl f5]) ⟨fun (h : zv_is (.inr 1000)) => (Nat.lt_irrefl 1000 h).elim, fun (h : zv_is (.inr 1000)) => (Nat.lt_irrefl 1000 h).elim, fun _ => rfl, fun _ => rfl, fun _ => rfl, fun (h : zv_is (.inr 1000)) => (Nat.lt_irrefl 1000 h).elim, trivial⟩ ⟨fun _ => rfl, fun _ => rfl, fun _ => rfl, fun _ => rfl, fun _ => rfl, fun _ => rfl, trivial⟩ ?_
        exact hK
      · rw [if_pos hc51] at h
        refine zv_ald hB zd314_264 rfl rfl rfl ?_
        refine zv_getr hB zd314_265 rfl ?_
        refine zv_ild hB zd314_268 rfl rfl ?_
        obtain ⟨c52, h⟩ := zi_if h
        refine zv_iald hB zd314_270 rfl rfl (zi_ix_ok c52).1 (zi_ix_ok c52).2 (fun _ _ => ?_)
        refine zv_con hB zd314_271 rfl ?_
        refine zv_cne hB zd314_272 rfl (fun hc53 => ?_) (fun hc53 => ?_)
        · rw [if_neg hc53] at h
          refine zv_ild hB zd314_278 rfl rfl ?_
          refine zv_zne hB zd314_279 rfl (fun hc54 => ?_) (fun hc54 => ?_)
          · rw [if_neg hc54] at h
            refine zv_ild hB zd314_287 rfl rfl ?_
            refine zv_ist hB zd314_289 rfl rfl rfl ?_
            refine zv_ild hB zd314_291 rfl rfl ?_
            refine zv_con hB zd314_292 rfl ?_
            refine zv_addw hB zd314_293 ?_
            refine zv_ist hB zd314_294 rfl rfl rfl ?_
            refine zv_iincw hB zd314_295 rfl rfl ?_
            refine zv_goto hB zd314_298 rfl ?_
            exact ih _ _ _ _ _ _ _ _ _ _ _ _ _ _ _ _ _ _ q h hK
          · rw [if_pos hc54] at h
            refine zv_ild hB zd314_282 rfl rfl ?_
            refine zv_goto hB zd314_284 rfl ?_
            refine zv_ist hB zd314_289 rfl rfl rfl ?_
            refine zv_ild hB zd314_291 rfl rfl ?_
            refine zv_con hB zd314_292 rfl ?_
            refine zv_addw hB zd314_293 ?_
            refine zv_ist hB zd314_294 rfl rfl rfl ?_
            refine zv_iincw hB zd314_295 rfl rfl ?_
            refine zv_goto hB zd314_298 rfl ?_
            exact ih _ _ _ _ _ _ _ _ _ _ _ _ _ _ _ _ _ _ q h hK
        · rw [if_pos hc53] at h
          refine zv_goto hB zd314_275 rfl ?_
          refine zv_iincw hB zd314_295 rfl rfl ?_
          refine zv_goto hB zd314_298 rfl ?_
          exact ih _ _ _ _ _ _ _ _ _ _ _ _ _ _ _ _ _ _ q h hK
  unfold zf_M_log at h
  refine zv_ild hB zd314_0 rfl rfl ?_
  refine zv_con hB zd314_1 rfl ?_
  refine zv_con hB zd314_2 rfl ?_
  obtain ⟨r1, hr1, h⟩ := zi_bind h
  refine zv_cs hB (zv_emq (va2 := [.inl x1, .inl 1, .inl 12]) (F := [.inl f0, .inl f1, .inl f2, .inl f3, .inl f4, .inl f5]) (F' := [.inl f0, .inl f1, .inl f2, .inl f3, .inl f4, .inl f5]) (G := [g0, g1, g2, g3, g4, g5, g6, g7, g8, g9, g10, g11, g12, g13, g14, g15, g16, g17]) (G' := [g0, g1, g2, g3, g4, g5, g6, g7, g8, g9, g10, g11, g12, g13, g14, g15, g16, g17]) (ρ := []) (φ := []) (ψ := []) [none, none, none, none, none, none] [none, none, none, none, none, none, none, none, none, none, none, none, none, none, none, none, none, none] zyw_M_in zyw_M_log zye_M_log (by decide +kernel) (zt_M_in hr1) trivial trivial rfl rfl rfl rfl rfl rfl rfl) zd314_4 zxt200 rfl (by decide) (by decide) rfl ?_
  refine zv_zeq hB zd314_7 rfl (fun hc2 => ?_) (fun hc2 => ?_)
  · rw [if_pos hc2] at h
    refine zv_con hB zd314_36 rfl ?_
    have hw := Option.some.inj h
    subst hw
    exact hret _ _ _ _ _ zd314_37 (by trivial) ⟨rfl, rfl, rfl⟩
  · rw [if_neg hc2] at h
    refine zv_ild hB zd314_10 rfl rfl ?_
    refine zv_con hB zd314_11 rfl ?_
    refine zv_con hB zd314_12 rfl ?_
    obtain ⟨r3, hr3, h⟩ := zi_bind h
    refine zv_cs hB (zv_emq (va2 := [.inl x2, .inl 0, .inl 1]) (F := [.inl f0, .inl f1, .inl f2, .inl f3, .inl f4, .inl f5]) (F' := [.inl f0, .inl f1, .inl f2, .inl f3, .inl f4, .inl f5]) (G := [g0, g1, g2, g3, g4, g5, g6, g7, g8, g9, g10, g11, g12, g13, g14, g15, g16, g17]) (G' := [g0, g1, g2, g3, g4, g5, g6, g7, g8, g9, g10, g11, g12, g13, g14, g15, g16, g17]) (ρ := []) (φ := []) (ψ := []) [none, none, none, none, none, none] [none, none, none, none, none, none, none, none, none, none, none, none, none, none, none, none, none, none] zyw_M_in zyw_M_log zye_M_log (by decide +kernel) (zt_M_in hr3) trivial trivial rfl rfl rfl rfl rfl rfl rfl) zd314_13 zxt200 rfl (by decide) (by decide) rfl ?_
    refine zv_zeq hB zd314_16 rfl (fun hc4 => ?_) (fun hc4 => ?_)
    · rw [if_pos hc4] at h
      refine zv_con hB zd314_36 rfl ?_
      have hw := Option.some.inj h
      subst hw
      exact hret _ _ _ _ _ zd314_37 (by trivial) ⟨rfl, rfl, rfl⟩
    · rw [if_neg hc4] at h
      refine zv_ald hB zd314_19 rfl rfl rfl ?_
      refine zv_getf hB zd314_20 rfl rfl (fun _ _ => ?_)
      refine zv_zeq hB zd314_23 rfl (fun hc5 => ?_) (fun hc5 => ?_)
      · rw [if_pos hc5] at h
        refine zv_con hB zd314_36 rfl ?_
        have hw := Option.some.inj h
        subst hw
        exact hret _ _ _ _ _ zd314_37 (by trivial) ⟨rfl, rfl, rfl⟩
      · rw [if_neg hc5] at h
        refine zv_con hB zd314_26 rfl ?_
        refine zv_ild hB zd314_27 rfl rfl ?_
        refine zv_mulw hB zd314_28 ?_
        refine zv_ald hB zd314_29 rfl rfl rfl ?_
        refine zv_getf hB zd314_30 rfl rfl (fun _ _ => ?_)
        refine zv_cle hB zd314_33 rfl (fun hc6 => ?_) (fun hc6 => ?_)
        · rw [if_neg (Int.not_lt.mpr hc6)] at h
          refine zv_ald hB zd314_38 rfl rfl rfl ?_
          refine zv_con hB zd314_39 rfl ?_
          refine zv_putf hB zd314_40 rfl rfl (fun h => by cases h) rfl ?_
          refine zv_ald hB zd314_43 rfl rfl rfl ?_
          refine zv_ild hB zd314_44 rfl rfl ?_
          obtain ⟨r7, hr7, h⟩ := zi_bind h
          refine zv_cv hB (zv_emq (va2 := [.inr 0, .inl x1]) (F := [.inl f0, .inl 0, .inl f2, .inl f3, .inl f4, .inl f5]) (F' := [.inl f0, .inl 0, .inl f2, .inl f3, .inl f4, .inl f5]) (G := [g0, g1, g2, g3, g4, g5, g6, g7, g8, g9, g10, g11, g12, g13, g14, g15, g16, g17]) (G' := [r7.2.1, g1, r7.2.2, g3, g4, g5, g6, g7, g8, g9, g10, g11, g12, g13, g14, g15, g16, g17]) (ρ := [0, 1, 2, 3]) (φ := []) (ψ := [0, 1, 2]) [none, none, none, none, none, none] [some 0, some 1, some 2, none, none, none, none, none, none, none, none, none, none, none, none, none, none, none] zyw_M_takesLog zyw_M_log zye_M_log (by decide +kernel) (zt_M_takesLog hr7) trivial ⟨rfl, rfl, rfl, trivial⟩ rfl rfl rfl rfl rfl rfl rfl) zd314_45 zxt315 rfl (by decide) (by decide) rfl ?_
          refine zv_zne hB zd314_48 rfl (fun hc8 => ?_) (fun hc8 => ?_)
          · rw [if_neg hc8] at h
            refine zv_con hB zd314_54 rfl ?_
            refine zv_ist hB zd314_55 rfl rfl rfl ?_
            obtain ⟨q14, hq14, h⟩ := zi_bind h
            refine l0 _ _ _ _ _ _ _ _ _ _ _ _ _ _ _ _ _ _ q14 hq14 ?_
            show good 88 [.inr 0, .inl x1, .inl x2, .inr 1000, .inr 1000, .inr 1000] [] [.inl f0, .inl 0, .inl f2, .inl f3, .inl f4, .inl f5] [r7.2.1, g1, r7.2.2, q14, g4, g5, g6, g7, g8, g9, g10, g11, g12, g13, g14, g15, g16, g17]
            refine zv_ald hB zd314_88 rfl rfl rfl ?_
            obtain ⟨r15, hr15, h⟩ := zi_bind h
            refine zv_cv hB (zv_emq (va2 := [.inr 0]) (F := [.inl f0, .inl 0, .inl f2, .inl f3, .inl f4, .inl f5]) (F' := [.inl f0, .inl 0, .inl f2, .inl f3, .inl f4, .inl f5]) (G := [r7.2.1, g1, r7.2.2, q14, g4, g5, g6, g7, g8, g9, g10, g11, g12, g13, g14, g15, g16, g17]) (G' := [r7.2.1, g1, r7.2.2, q14, g4, r15, g6, g7, g8, g9, g10, g11, g12, g13, g14, g15, g16, g17]) (ρ := [0, 5, 6]) (φ := []) (ψ := [4, 5]) [none, none, none, none, none, none] [none, none, none, none, some 0, some 1, none, none, none, none, none, none, none, none, none, none, none, none] zyw_M_begins zyw_M_log zye_M_log (by decide +kernel) (zt_M_begins hr15) trivial ⟨rfl, rfl, trivial⟩ rfl rfl rfl rfl rfl rfl rfl) zd314_89 zxt299 rfl (by decide) (by decide) rfl ?_
            refine zv_con hB zd314_92 rfl ?_
            refine zv_ist hB zd314_93 rfl rfl rfl ?_
            obtain ⟨q49, hq49, h⟩ := zi_bind h
            refine l1 _ _ _ _ _ _ _ _ _ _ _ _ _ _ _ _ _ _ q49 hq49 ?_
            show good 243 [.inr 0, .inr 1000, .inl x2, .inr 1000, .inr 1000, .inr 1000] [] [.inl f0, .inl 0, .inl f2, .inl q49.1, .inl q49.2.1, .inl f5] [r7.2.1, g1, r7.2.2, q49.2.2.1, q49.2.2.2.1, r15, g6, q49.2.2.2.2.1, g8, g9, g10, q49.2.2.2.2.2.1, q49.2.2.2.2.2.2.1, q49.2.2.2.2.2.2.2.1, q49.2.2.2.2.2.2.2.2.1, g15, g16, q49.2.2.2.2.2.2.2.2.2]
            refine zv_ald hB zd314_243 rfl rfl rfl ?_
            obtain ⟨r50, hr50, h⟩ := zi_bind h
            refine zv_cv hB (zv_emq (va2 := [.inr 0]) (F := [.inl f0, .inl 0, .inl f2, .inl q49.1, .inl q49.2.1, .inl f5]) (F' := [.inl f0, .inl 0, .inl f2, .inl q49.1, .inl q49.2.1, .inl f5]) (G := [r7.2.1, g1, r7.2.2, q49.2.2.1, q49.2.2.2.1, r15, g6, q49.2.2.2.2.1, g8, g9, g10, q49.2.2.2.2.2.1, q49.2.2.2.2.2.2.1, q49.2.2.2.2.2.2.2.1, q49.2.2.2.2.2.2.2.2.1, g15, g16, q49.2.2.2.2.2.2.2.2.2]) (G' := [r7.2.1, g1, r7.2.2, q49.2.2.1, r50, r15, g6, q49.2.2.2.2.1, g8, g9, g10, q49.2.2.2.2.2.1, q49.2.2.2.2.2.2.1, q49.2.2.2.2.2.2.2.1, q49.2.2.2.2.2.2.2.2.1, g15, g16, q49.2.2.2.2.2.2.2.2.2]) (ρ := [0, 6, 5]) (φ := []) (ψ := [5, 4]) [none, none, none, none, none, none] [none, none, none, none, some 1, some 0, none, none, none, none, none, none, none, none, none, none, none, none] zyw_M_again zyw_M_log zye_M_log (by decide +kernel) (zt_M_again hr50) trivial ⟨rfl, rfl, trivial⟩ rfl rfl rfl rfl rfl rfl rfl) zd314_244 zxt301 rfl (by decide) (by decide) rfl ?_
            refine zv_con hB zd314_247 rfl ?_
            refine zv_ist hB zd314_248 rfl rfl rfl ?_
            refine zv_con hB zd314_249 rfl ?_
            refine zv_ist hB zd314_251 rfl rfl rfl ?_
            refine zv_con hB zd314_253 rfl ?_
            refine zv_ist hB zd314_254 rfl rfl rfl ?_
            obtain ⟨q55, hq55, h⟩ := zi_bind h
            refine l3 _ _ _ _ _ _ _ _ _ _ _ _ _ _ _ _ _ _ _ q55 hq55 ?_
            show good 301 [.inr 1000, .inr 1000, .inl x2, .inl q55.1, .inl q55.2, .inr 1000] [] [.inl f0, .inl 0, .inl f2, .inl q49.1, .inl q49.2.1, .inl f5] [r7.2.1, g1, r7.2.2, q49.2.2.1, r50, r15, g6, q49.2.2.2.2.1, g8, g9, g10, q49.2.2.2.2.2.1, q49.2.2.2.2.2.2.1, q49.2.2.2.2.2.2.2.1, q49.2.2.2.2.2.2.2.2.1, g15, g16, q49.2.2.2.2.2.2.2.2.2]
            refine zv_ild hB zd314_301 rfl rfl ?_
            refine zv_zne hB zd314_302 rfl (fun hc56 => ?_) (fun hc56 => ?_)
            · rw [if_neg hc56] at h
              refine zv_ild hB zd314_309 rfl rfl ?_
              have hw := Option.some.inj h
              subst hw
              exact hret _ _ _ _ _ zd314_311 (by trivial) ⟨rfl, rfl, rfl⟩
            · rw [if_pos hc56] at h
              refine zv_ild hB zd314_305 rfl rfl ?_
              refine zv_goto hB zd314_306 rfl ?_
              have hw := Option.some.inj h
              subst hw
              exact hret _ _ _ _ _ zd314_311 (by trivial) ⟨rfl, rfl, rfl⟩
          · rw [if_pos hc8] at h
            refine zv_con hB zd314_51 rfl ?_
            have hw := Option.some.inj h
            subst hw
            exact hret _ _ _ _ _ zd314_53 (by trivial) ⟨rfl, rfl, rfl⟩
        · rw [if_pos hc6] at h
          refine zv_con hB zd314_36 rfl ?_
          have hw := Option.some.inj h
          subst hw
          exact hret _ _ _ _ _ zd314_37 (by trivial) ⟨rfl, rfl, rfl⟩
end
