/-! Methods as functions, and that they do what these do. -/
/-! Matcher_begin_24 (LStarTales$Tale;I[I)V -/
-- names: 0 Matcher('arg', 0), 1 Tale('arg', 1), 2 (0, 24)('arg', 3), 3 (0, 72)(0, 8, 0), 4 (0, 8)(1, 6, 2), 5 (0, 24)(0, 8, 1)
-- fields: f0 = 0.tale_, f1 = 0.joined_, f2 = 0.deadEnds_; arrays: g0 = 2, g1 = 3, g2 = 4, g3 = 5; out: [('f', 2), ('g', 1), ('g', 3)]
abbrev zy_Matcher_begin_24 : zNL := (6, [(0, 8), (1, 6)], [(0, 8, 3, 0), (0, 8, 4, 1), (0, 8, 6, 2)], [(0, 8, 0, 3), (1, 6, 2, 4), (0, 8, 1, 5)], [(2, 0, 24, 0), (3, 0, 72, 1), (4, 0, 8, 2), (5, 0, 24, 3)])
theorem zyw_Matcher_begin_24 : zv_wf zy_Matcher_begin_24 = true := by decide +kernel
theorem zye_Matcher_begin_24 : zv_ek2 zy_Matcher_begin_24 = true := by decide +kernel
def zf_Matcher_begin_24_l0_b (x2 : Int) (g0 : (Int → Int)) (g2 : (Int → Int)) (rec : Int → (Int → Int) → Option ((Int → Int))) (x4 : Int) (g1 : (Int → Int)) : Option ((Int → Int)) := if x4 < 8 then (cond (zi_ix x4 8) ((zf_Integer_bitCount (g2 x4)).bind fun r3 => ((zf_Matcher_withLegs x2 r3 g0).bind fun r4 => (cond (zi_ix x4 72) (rec (zi_w (x4 + 1)) (zv_up g1 x4 r4)) none))) none) else (some g1)
def zf_Matcher_begin_24_l0 (x2 : Int) (g0 : (Int → Int)) (g2 : (Int → Int)) : Nat → Int → (Int → Int) → Option ((Int → Int))
  | 0, _, _ => none
  | n + 1, x4, g1 => zf_Matcher_begin_24_l0_b x2 g0 g2 (zf_Matcher_begin_24_l0 x2 g0 g2 n) x4 g1
def zf_Matcher_begin_24_l2_b (x2 : Int) (x4 : Int) (g0 : (Int → Int)) (rec : Int → (Int → Int) → Option ((Int → Int))) (x5 : Int) (g3 : (Int → Int)) : Option ((Int → Int)) := if x5 < x4 then (if (zi_and (zi_shr x2 x4) 1) = 0 then (some g3) else (cond (zi_ix x4 24) (cond (zi_ix x5 24) (if (zi_and (zi_and (zi_xor (g0 x4) (g0 x5)) x2) (zi_xor (zi_or (zi_shl 1 x4) (zi_shl 1 x5)) (-1))) = 0 then (if (zi_and (zi_shr x2 x5) 1) = 0 then (rec (zi_w (x5 + 1)) g3) else (rec (zi_w (x5 + 1)) (zv_up (zv_up g3 x4 (zi_or (g3 x4) (zi_shl 1 x5))) x5 (zi_or ((zv_up g3 x4 (zi_or (g3 x4) (zi_shl 1 x5))) x5) (zi_shl 1 x4))))) else (rec (zi_w (x5 + 1)) g3)) none) none)) else (some g3)
def zf_Matcher_begin_24_l2 (x2 : Int) (x4 : Int) (g0 : (Int → Int)) : Nat → Int → (Int → Int) → Option ((Int → Int))
  | 0, _, _ => none
  | n + 1, x5, g3 => zf_Matcher_begin_24_l2_b x2 x4 g0 (zf_Matcher_begin_24_l2 x2 x4 g0 n) x5 g3
def zf_Matcher_begin_24_l1_b (x2 : Int) (g0 : (Int → Int)) (rec : Int → (Int → Int) → Option ((Int → Int))) (x4 : Int) (g3 : (Int → Int)) : Option ((Int → Int)) := if x4 < 24 then (cond (zi_ix x4 24) ((zf_Matcher_begin_24_l2 x2 x4 g0 zi_fu 0 (zv_up g3 x4 (zi_shl 1 x4))).bind fun q17 => (rec (zi_w (x4 + 1)) q17)) none) else (some g3)
def zf_Matcher_begin_24_l1 (x2 : Int) (g0 : (Int → Int)) : Nat → Int → (Int → Int) → Option ((Int → Int))
  | 0, _, _ => none
  | n + 1, x4, g3 => zf_Matcher_begin_24_l1_b x2 g0 (zf_Matcher_begin_24_l1 x2 g0 n) x4 g3
def zf_Matcher_begin_24 (x2 : Int) (f2 : Int) (g0 : (Int → Int)) (g1 : (Int → Int)) (g2 : (Int → Int)) (g3 : (Int → Int)) : Option (Int × (Int → Int) × (Int → Int)) := (zf_Matcher_begin_24_l0 x2 g0 g2 zi_fu 0 g1).bind fun q6 => ((zf_Matcher_begin_24_l1 x2 g0 zi_fu 0 g3).bind fun q18 => (some (0, q6, q18)))
theorem zd113_0 : decode zxm113.2.1 0 = .ok (.aload_n 0, 1) := by decide +kernel
theorem zd113_1 : decode zxm113.2.1 1 = .ok (.aload_n 1, 1) := by decide +kernel
theorem zd113_2 : decode zxm113.2.1 2 = .ok (.putfield 30, 3) := by decide +kernel
theorem zd113_5 : decode zxm113.2.1 5 = .ok (.aload_n 0, 1) := by decide +kernel
theorem zd113_6 : decode zxm113.2.1 6 = .ok (.aload_n 3, 1) := by decide +kernel
theorem zd113_7 : decode zxm113.2.1 7 = .ok (.putfield 34, 3) := by decide +kernel
theorem zd113_10 : decode zxm113.2.1 10 = .ok (.aload_n 0, 1) := by decide +kernel
theorem zd113_11 : decode zxm113.2.1 11 = .ok (.iconst 0, 1) := by decide +kernel
theorem zd113_12 : decode zxm113.2.1 12 = .ok (.putfield 27, 3) := by decide +kernel
theorem zd113_15 : decode zxm113.2.1 15 = .ok (.iconst 0, 1) := by decide +kernel
theorem zd113_16 : decode zxm113.2.1 16 = .ok (.istore 4, 2) := by decide +kernel
theorem zd113_18 : decode zxm113.2.1 18 = .ok (.iload 4, 2) := by decide +kernel
theorem zd113_20 : decode zxm113.2.1 20 = .ok (.bipush 8, 2) := by decide +kernel
theorem zd113_22 : decode zxm113.2.1 22 = .ok (.if_icmp .ge 34, 3) := by decide +kernel
theorem zd113_25 : decode zxm113.2.1 25 = .ok (.aload_n 0, 1) := by decide +kernel
theorem zd113_26 : decode zxm113.2.1 26 = .ok (.getfield 11, 3) := by decide +kernel
theorem zd113_29 : decode zxm113.2.1 29 = .ok (.iload 4, 2) := by decide +kernel
theorem zd113_31 : decode zxm113.2.1 31 = .ok (.aload_n 0, 1) := by decide +kernel
theorem zd113_32 : decode zxm113.2.1 32 = .ok (.iload_n 2, 1) := by decide +kernel
theorem zd113_33 : decode zxm113.2.1 33 = .ok (.aload_n 0, 1) := by decide +kernel
theorem zd113_34 : decode zxm113.2.1 34 = .ok (.getfield 30, 3) := by decide +kernel
theorem zd113_37 : decode zxm113.2.1 37 = .ok (.getfield 52, 3) := by decide +kernel
theorem zd113_40 : decode zxm113.2.1 40 = .ok (.iload 4, 2) := by decide +kernel
theorem zd113_42 : decode zxm113.2.1 42 = .ok (.iaload, 1) := by decide +kernel
theorem zd113_43 : decode zxm113.2.1 43 = .ok (.invokestatic 55, 3) := by decide +kernel
theorem zd113_46 : decode zxm113.2.1 46 = .ok (.invokevirtual 61, 3) := by decide +kernel
theorem zd113_49 : decode zxm113.2.1 49 = .ok (.iastore, 1) := by decide +kernel
theorem zd113_50 : decode zxm113.2.1 50 = .ok (.iinc 4 1, 3) := by decide +kernel
theorem zd113_53 : decode zxm113.2.1 53 = .ok (.goto (-35), 3) := by decide +kernel
theorem zd113_56 : decode zxm113.2.1 56 = .ok (.iconst 0, 1) := by decide +kernel
theorem zd113_57 : decode zxm113.2.1 57 = .ok (.istore 4, 2) := by decide +kernel
theorem zd113_59 : decode zxm113.2.1 59 = .ok (.iload 4, 2) := by decide +kernel
theorem zd113_61 : decode zxm113.2.1 61 = .ok (.bipush 24, 2) := by decide +kernel
theorem zd113_63 : decode zxm113.2.1 63 = .ok (.if_icmp .ge 130, 3) := by decide +kernel
theorem zd113_66 : decode zxm113.2.1 66 = .ok (.aload_n 0, 1) := by decide +kernel
theorem zd113_67 : decode zxm113.2.1 67 = .ok (.getfield 17, 3) := by decide +kernel
theorem zd113_70 : decode zxm113.2.1 70 = .ok (.iload 4, 2) := by decide +kernel
theorem zd113_72 : decode zxm113.2.1 72 = .ok (.iconst 1, 1) := by decide +kernel
theorem zd113_73 : decode zxm113.2.1 73 = .ok (.iload 4, 2) := by decide +kernel
theorem zd113_75 : decode zxm113.2.1 75 = .ok (.ishl, 1) := by decide +kernel
theorem zd113_76 : decode zxm113.2.1 76 = .ok (.iastore, 1) := by decide +kernel
theorem zd113_77 : decode zxm113.2.1 77 = .ok (.iconst 0, 1) := by decide +kernel
theorem zd113_78 : decode zxm113.2.1 78 = .ok (.istore 5, 2) := by decide +kernel
theorem zd113_80 : decode zxm113.2.1 80 = .ok (.iload 5, 2) := by decide +kernel
theorem zd113_82 : decode zxm113.2.1 82 = .ok (.iload 4, 2) := by decide +kernel
theorem zd113_84 : decode zxm113.2.1 84 = .ok (.if_icmp .ge 103, 3) := by decide +kernel
theorem zd113_87 : decode zxm113.2.1 87 = .ok (.iload_n 2, 1) := by decide +kernel
theorem zd113_88 : decode zxm113.2.1 88 = .ok (.iload 4, 2) := by decide +kernel
theorem zd113_90 : decode zxm113.2.1 90 = .ok (.ishr, 1) := by decide +kernel
theorem zd113_91 : decode zxm113.2.1 91 = .ok (.iconst 1, 1) := by decide +kernel
theorem zd113_92 : decode zxm113.2.1 92 = .ok (.iand, 1) := by decide +kernel
theorem zd113_93 : decode zxm113.2.1 93 = .ok (.ifCond .eq 94, 3) := by decide +kernel
theorem zd113_96 : decode zxm113.2.1 96 = .ok (.iconst 1, 1) := by decide +kernel
theorem zd113_97 : decode zxm113.2.1 97 = .ok (.iload 4, 2) := by decide +kernel
theorem zd113_99 : decode zxm113.2.1 99 = .ok (.ishl, 1) := by decide +kernel
theorem zd113_100 : decode zxm113.2.1 100 = .ok (.iconst 1, 1) := by decide +kernel
theorem zd113_101 : decode zxm113.2.1 101 = .ok (.iload 5, 2) := by decide +kernel
theorem zd113_103 : decode zxm113.2.1 103 = .ok (.ishl, 1) := by decide +kernel
theorem zd113_104 : decode zxm113.2.1 104 = .ok (.ior, 1) := by decide +kernel
theorem zd113_105 : decode zxm113.2.1 105 = .ok (.istore 6, 2) := by decide +kernel
theorem zd113_107 : decode zxm113.2.1 107 = .ok (.aload_n 0, 1) := by decide +kernel
theorem zd113_108 : decode zxm113.2.1 108 = .ok (.getfield 34, 3) := by decide +kernel
theorem zd113_111 : decode zxm113.2.1 111 = .ok (.iload 4, 2) := by decide +kernel
theorem zd113_113 : decode zxm113.2.1 113 = .ok (.iaload, 1) := by decide +kernel
theorem zd113_114 : decode zxm113.2.1 114 = .ok (.aload_n 0, 1) := by decide +kernel
theorem zd113_115 : decode zxm113.2.1 115 = .ok (.getfield 34, 3) := by decide +kernel
theorem zd113_118 : decode zxm113.2.1 118 = .ok (.iload 5, 2) := by decide +kernel
theorem zd113_120 : decode zxm113.2.1 120 = .ok (.iaload, 1) := by decide +kernel
theorem zd113_121 : decode zxm113.2.1 121 = .ok (.ixor, 1) := by decide +kernel
theorem zd113_122 : decode zxm113.2.1 122 = .ok (.iload_n 2, 1) := by decide +kernel
theorem zd113_123 : decode zxm113.2.1 123 = .ok (.iand, 1) := by decide +kernel
theorem zd113_124 : decode zxm113.2.1 124 = .ok (.iload 6, 2) := by decide +kernel
theorem zd113_126 : decode zxm113.2.1 126 = .ok (.iconst (-1), 1) := by decide +kernel
theorem zd113_127 : decode zxm113.2.1 127 = .ok (.ixor, 1) := by decide +kernel
theorem zd113_128 : decode zxm113.2.1 128 = .ok (.iand, 1) := by decide +kernel
theorem zd113_129 : decode zxm113.2.1 129 = .ok (.ifCond .ne 7, 3) := by decide +kernel
theorem zd113_132 : decode zxm113.2.1 132 = .ok (.iconst 1, 1) := by decide +kernel
theorem zd113_133 : decode zxm113.2.1 133 = .ok (.goto 4, 3) := by decide +kernel
theorem zd113_136 : decode zxm113.2.1 136 = .ok (.iconst 0, 1) := by decide +kernel
theorem zd113_137 : decode zxm113.2.1 137 = .ok (.istore 7, 2) := by decide +kernel
theorem zd113_139 : decode zxm113.2.1 139 = .ok (.iload 7, 2) := by decide +kernel
theorem zd113_141 : decode zxm113.2.1 141 = .ok (.ifCond .eq 40, 3) := by decide +kernel
theorem zd113_144 : decode zxm113.2.1 144 = .ok (.iload_n 2, 1) := by decide +kernel
theorem zd113_145 : decode zxm113.2.1 145 = .ok (.iload 5, 2) := by decide +kernel
theorem zd113_147 : decode zxm113.2.1 147 = .ok (.ishr, 1) := by decide +kernel
theorem zd113_148 : decode zxm113.2.1 148 = .ok (.iconst 1, 1) := by decide +kernel
theorem zd113_149 : decode zxm113.2.1 149 = .ok (.iand, 1) := by decide +kernel
theorem zd113_150 : decode zxm113.2.1 150 = .ok (.ifCond .eq 31, 3) := by decide +kernel
theorem zd113_153 : decode zxm113.2.1 153 = .ok (.aload_n 0, 1) := by decide +kernel
theorem zd113_154 : decode zxm113.2.1 154 = .ok (.getfield 17, 3) := by decide +kernel
theorem zd113_157 : decode zxm113.2.1 157 = .ok (.iload 4, 2) := by decide +kernel
theorem zd113_159 : decode zxm113.2.1 159 = .ok (.dup2, 1) := by decide +kernel
theorem zd113_160 : decode zxm113.2.1 160 = .ok (.iaload, 1) := by decide +kernel
theorem zd113_161 : decode zxm113.2.1 161 = .ok (.iconst 1, 1) := by decide +kernel
theorem zd113_162 : decode zxm113.2.1 162 = .ok (.iload 5, 2) := by decide +kernel
theorem zd113_164 : decode zxm113.2.1 164 = .ok (.ishl, 1) := by decide +kernel
theorem zd113_165 : decode zxm113.2.1 165 = .ok (.ior, 1) := by decide +kernel
theorem zd113_166 : decode zxm113.2.1 166 = .ok (.iastore, 1) := by decide +kernel
theorem zd113_167 : decode zxm113.2.1 167 = .ok (.aload_n 0, 1) := by decide +kernel
theorem zd113_168 : decode zxm113.2.1 168 = .ok (.getfield 17, 3) := by decide +kernel
theorem zd113_171 : decode zxm113.2.1 171 = .ok (.iload 5, 2) := by decide +kernel
theorem zd113_173 : decode zxm113.2.1 173 = .ok (.dup2, 1) := by decide +kernel
theorem zd113_174 : decode zxm113.2.1 174 = .ok (.iaload, 1) := by decide +kernel
theorem zd113_175 : decode zxm113.2.1 175 = .ok (.iconst 1, 1) := by decide +kernel
theorem zd113_176 : decode zxm113.2.1 176 = .ok (.iload 4, 2) := by decide +kernel
theorem zd113_178 : decode zxm113.2.1 178 = .ok (.ishl, 1) := by decide +kernel
theorem zd113_179 : decode zxm113.2.1 179 = .ok (.ior, 1) := by decide +kernel
theorem zd113_180 : decode zxm113.2.1 180 = .ok (.iastore, 1) := by decide +kernel
theorem zd113_181 : decode zxm113.2.1 181 = .ok (.iinc 5 1, 3) := by decide +kernel
theorem zd113_184 : decode zxm113.2.1 184 = .ok (.goto (-104), 3) := by decide +kernel
theorem zd113_187 : decode zxm113.2.1 187 = .ok (.iinc 4 1, 3) := by decide +kernel
theorem zd113_190 : decode zxm113.2.1 190 = .ok (.goto (-131), 3) := by decide +kernel
theorem zd113_193 : decode zxm113.2.1 193 = .ok (.return_, 1) := by decide +kernel
theorem zt_Matcher_begin_24 {x2 : Int} {f2 : Int} {g0 : (Int → Int)} {g1 : (Int → Int)} {g2 : (Int → Int)} {g3 : (Int → Int)} {o : Int × (Int → Int) × (Int → Int)} (h : zf_Matcher_begin_24 x2 f2 g0 g1 g2 g3 = some o) : zv_Fn z_TB z_cl z_KX zy_Matcher_begin_24 zxm113 (2, 120) [.inr 0, .inr 1, .inl x2, .inr 2] [.inr 1000, .inr 1000, .inl f2] [g0, g1, g2, g3] none [.inr 1, .inr 2, .inl o.1] [g0, o.2.1, g2, o.2.2] := zv_meth (K := (z_KF4, z_KC4, z_KL4, z_KT4, [], [], [], none)) (FT := z_FT) (MT := z_MT) (n := 4) zxp113 (z_ks4 _ (fun _ h => List.mem_cons_of_mem _ h) _ _ _ _ (fun j r h _ => by cases h)) (fun _ _ => zs_KX_p) zyw_Matcher_begin_24 (fun va F G h => by obtain ⟨rfl, _⟩ := h; rfl) rfl fun good va F G hB hret hvret hP => by
  obtain ⟨rfl, rfl, rfl⟩ := hP
  have l0 : ∀ (n : Nat) (x2 : Int) (x4 : Int) (f2 : Int) (g1 : (Int → Int)) (g3 : (Int → Int)) (q : (Int → Int)), zf_Matcher_begin_24_l0 x2 g0 g2 n x4 g1 = some q → (good 56 [.inr 0, .inr 1000, .inl x2, .inr 1000, .inr 1000, .inr 1000, .inr 1000, .inr 1000] [] [.inr 1, .inr 2, .inl f2] [g0, q, g2, g3]) → good 18 [.inr 0, .inr 1000, .inl x2, .inr 1000, .inl x4, .inr 1000, .inr 1000, .inr 1000] [] [.inr 1, .inr 2, .inl f2] [g0, g1, g2, g3] := by
    intro n
    induction n with
    | zero => intro x2 x4 f2 g1 g3 q h; exact absurd (show none = some q from h) (fun h => by cases h)
    | succ n ih =>
      intro x2 x4 f2 g1 g3 q h hK
      replace h : zf_Matcher_begin_24_l0_b x2 g0 g2 (zf_Matcher_begin_24_l0 x2 g0 g2 n) x4 g1 = some q := h
      unfold zf_Matcher_begin_24_l0_b at h
      refine zv_ild hB zd113_18 rfl rfl ?_
      refine zv_con hB zd113_20 rfl ?_
      refine zv_cge hB zd113_22 rfl (fun hc1 => ?_) (fun hc1 => ?_)
      · rw [if_neg (Int.not_lt.mpr hc1)] at h
        have hq := Option.some.inj h
        subst hq
        refine zv_wk hB (L' := [.inr 0, .inr 1000, .inl x2, .inr 1000, .inr 1000, .inr 1000, .inr 1000, .inr 1000]) (F' := [.inr 1, .inr 2, .inl f2]) ⟨fun _ => rfl, fun h => (Nat.lt_irrefl 1000 h).elim, fun _ => rfl, fun h => (Nat.lt_irrefl 1000 h).elim, fun h => (Nat.lt_irrefl 1000 h).elim, fun h => (Nat.lt_irrefl 1000 h).elim, fun h => (Nat.lt_irrefl 1000 h).elim, fun h => (Nat.lt_irrefl 1000 h).elim, trivial⟩ ⟨fun _ => rfl, fun _ => rfl, fun _ => rfl, trivial⟩ ?_
        exact hK
      · rw [if_pos hc1] at h
        refine zv_ald hB zd113_25 rfl rfl rfl ?_
        refine zv_getr hB zd113_26 rfl ?_
        refine zv_ild hB zd113_29 rfl rfl ?_
        refine zv_ald hB zd113_31 rfl rfl rfl ?_
        refine zv_ild hB zd113_32 rfl rfl ?_
        refine zv_ald hB zd113_33 rfl rfl rfl ?_
        refine zv_getq hB zd113_34 rfl rfl rfl ?_
        refine zv_getr hB zd113_37 rfl ?_
        refine zv_ild hB zd113_40 rfl rfl ?_
        obtain ⟨c2, h⟩ := zi_if h
        refine zv_iald hB zd113_42 rfl rfl (zi_ix_ok c2).1 (zi_ix_ok c2).2 (fun _ _ => ?_)
        obtain ⟨r3, hr3, h⟩ := zi_bind h
        refine zv_cs hB (show zv_Fn _ _ _ zy_Matcher_begin_24 _ _ [.inl (g2 x4)] [.inr 1, .inr 2, .inl f2] [g0, g1, g2, g3] (some r3) [.inr 1, .inr 2, .inl f2] [g0, g1, g2, g3] from zv_emb (F := [.inr 1, .inr 2, .inl f2]) (G := [g0, g1, g2, g3]) zyw_Integer_bitCount zyw_Matcher_begin_24 zye_Matcher_begin_24 (by decide +kernel : zv_ek zy_Integer_bitCount zy_Matcher_begin_24 [] [] [] = true) (zt_Integer_bitCount hr3) trivial trivial) zd113_43 zxt102 rfl (by decide) (by decide) rfl ?_
        obtain ⟨r4, hr4, h⟩ := zi_bind h
        refine zv_cv hB (show zv_Fn _ _ _ zy_Matcher_begin_24 _ _ [.inr 0, .inl x2, .inl r3] [.inr 1, .inr 2, .inl f2] [g0, g1, g2, g3] (some r4) [.inr 1, .inr 2, .inl f2] [g0, g1, g2, g3] from zv_emb (F := [.inr 1, .inr 2, .inl f2]) (G := [g0, g1, g2, g3]) zyw_Matcher_withLegs zyw_Matcher_begin_24 zye_Matcher_begin_24 (by decide +kernel : zv_ek zy_Matcher_withLegs zy_Matcher_begin_24 [0, 2] [1] [0] = true) (zt_Matcher_withLegs hr4) ⟨⟨_, rfl, fun _ => rfl⟩, trivial⟩ ⟨rfl, trivial⟩) zd113_46 zxt114 rfl (by decide) (by decide) rfl ?_
        obtain ⟨c5, h⟩ := zi_if h
        refine zv_iast hB zd113_49 rfl rfl (zi_ix_ok c5).1 (zi_ix_ok c5).2 ?_
        refine zv_iincw hB zd113_50 rfl rfl ?_
        refine zv_goto hB zd113_53 rfl ?_
        exact ih _ _ _ _ _ q h hK
  have l2 : ∀ (n : Nat) (x2 : Int) (x4 : Int) (x5 : Int) (f2 : Int) (g1 : (Int → Int)) (g3 : (Int → Int)) (q : (Int → Int)), zf_Matcher_begin_24_l2 x2 x4 g0 n x5 g3 = some q → (good 187 [.inr 0, .inr 1000, .inl x2, .inr 1000, .inl x4, .inr 1000, .inr 1000, .inr 1000] [] [.inr 1, .inr 2, .inl f2] [g0, g1, g2, q]) → good 80 [.inr 0, .inr 1000, .inl x2, .inr 1000, .inl x4, .inl x5, .inr 1000, .inr 1000] [] [.inr 1, .inr 2, .inl f2] [g0, g1, g2, g3] := by
    intro n
    induction n with
    | zero => intro x2 x4 x5 f2 g1 g3 q h; exact absurd (show none = some q from h) (fun h => by cases h)
    | succ n ih =>
      intro x2 x4 x5 f2 g1 g3 q h hK
      replace h : zf_Matcher_begin_24_l2_b x2 x4 g0 (zf_Matcher_begin_24_l2 x2 x4 g0 n) x5 g3 = some q := h
      unfold zf_Matcher_begin_24_l2_b at h
      refine zv_ild hB zd113_80 rfl rfl ?_
      refine zv_ild hB zd113_82 rfl rfl ?_
      refine zv_cge hB zd113_84 rfl (fun hc9 => ?_) (fun hc9 => ?_)
      · rw [if_neg (Int.not_lt.mpr hc9)] at h
        have hq := Option.some.inj h
        subst hq
        refine zv_wk hB (L' := [.inr 0, .inr 1000, .inl x2, .inr 1000, .inl x4, .inr 1000, .inr 1000, .inr 1000]) (F' := [.inr 1, .inr 2, .inl f2]) ⟨fun _ => rfl, fun h => (Nat.lt_irrefl 1000 h).elim, fun _ => rfl, fun h => (Nat.lt_irrefl 1000 h).elim, fun _ => rfl, fun h => (Nat.lt_irrefl 1000 h).elim, fun h => (Nat.lt_irrefl 1000 h).elim, fun h => (Nat.lt_irrefl 1000 h).elim, trivial⟩ ⟨fun _ => rfl, fun _ => rfl, fun _ => rfl, trivial⟩ ?_
        exact hK
      · rw [if_pos hc9] at h
        refine zv_ild hB zd113_87 rfl rfl ?_
        refine zv_ild hB zd113_88 rfl rfl ?_
        refine zv_shrw hB zd113_90 ?_
        refine zv_con hB zd113_91 rfl ?_
        refine zv_andw hB zd113_92 ?_
        refine zv_zeq hB zd113_93 rfl (fun hc10 => ?_) (fun hc10 => ?_)
        · rw [if_pos hc10] at h
          have hq := Option.some.inj h
          subst hq
          refine zv_wk hB (L' := [.inr 0, .inr 1000, .inl x2, .inr 1000, .inl x4, .inr 1000, .inr 1000, .inr 1000]) (F' := [.inr 1, .inr 2, .inl f2]) ⟨fun _ => rfl, fun h => (Nat.lt_irrefl 1000 h).elim, fun _ => rfl, fun h => (Nat.lt_irrefl 1000 h).elim, fun _ => rfl, fun h => (Nat.lt_irrefl 1000 h).elim, fun h => (Nat.lt_irrefl 1000 h).elim, fun h => (Nat.lt_irrefl 1000 h).elim, trivial⟩ ⟨fun _ => rfl, fun _ => rfl, fun _ => rfl, trivial⟩ ?_
          exact hK
        · rw [if_neg hc10] at h
          refine zv_con hB zd113_96 rfl ?_
          refine zv_ild hB zd113_97 rfl rfl ?_
          refine zv_shlw hB zd113_99 ?_
          refine zv_con hB zd113_100 rfl ?_
          refine zv_ild hB zd113_101 rfl rfl ?_
          refine zv_shlw hB zd113_103 ?_
          refine zv_orw hB zd113_104 ?_
          refine zv_ist hB zd113_105 rfl rfl rfl ?_
          refine zv_ald hB zd113_107 rfl rfl rfl ?_
          refine zv_getq hB zd113_108 rfl rfl rfl ?_
          refine zv_ild hB zd113_111 rfl rfl ?_
          obtain ⟨c11, h⟩ := zi_if h
          refine zv_iald hB zd113_113 rfl rfl (zi_ix_ok c11).1 (zi_ix_ok c11).2 (fun _ _ => ?_)
          refine zv_ald hB zd113_114 rfl rfl rfl ?_
          refine zv_getq hB zd113_115 rfl rfl rfl ?_
          refine zv_ild hB zd113_118 rfl rfl ?_
          obtain ⟨c12, h⟩ := zi_if h
          refine zv_iald hB zd113_120 rfl rfl (zi_ix_ok c12).1 (zi_ix_ok c12).2 (fun _ _ => ?_)
          refine zv_xorw hB zd113_121 ?_
          refine zv_ild hB zd113_122 rfl rfl ?_
          refine zv_andw hB zd113_123 ?_
          refine zv_ild hB zd113_124 rfl rfl ?_
          refine zv_con hB zd113_126 rfl ?_
          refine zv_xorw hB zd113_127 ?_
          refine zv_andw hB zd113_128 ?_
          refine zv_zne hB zd113_129 rfl (fun hc13 => ?_) (fun hc13 => ?_)
          · rw [if_neg hc13] at h
            refine zv_con hB zd113_136 rfl ?_
            refine zv_ist hB zd113_137 rfl rfl rfl ?_
            refine zv_ild hB zd113_139 rfl rfl ?_
            refine zv_zeq hB zd113_141 rfl (fun _ => ?_) (fun hc => absurd hc (by decide))
            refine zv_iincw hB zd113_181 rfl rfl ?_
            refine zv_goto hB zd113_184 rfl ?_
            refine zv_wk hB (L' := [.inr 0, .inr 1000, .inl x2, .inr 1000, .inl x4, .inl (zi_w (x5 + 1)), .inr 1000, .inr 1000]) (F' := [.inr 1, .inr 2, .inl f2]) ⟨fun _ => rfl, fun h => (Nat.lt_irrefl 1000 h).elim, fun _ => rfl, fun h => (Nat.lt_irrefl 1000 h).elim, fun _ => rfl, fun _ => rfl, fun h => (Nat.lt_irrefl 1000 h).elim, fun h => (Nat.lt_irrefl 1000 h).elim, trivial⟩ ⟨fun _ => rfl, fun _ => rfl, fun _ => rfl, trivial⟩ ?_
            exact ih _ _ _ _ _ _ q h hK
          · rw [if_pos hc13] at h
            refine zv_con hB zd113_132 rfl ?_
            refine zv_goto hB zd113_133 rfl ?_
            refine zv_ist hB zd113_137 rfl rfl rfl ?_
            refine zv_ild hB zd113_139 rfl rfl ?_
            refine zv_zeq hB zd113_141 rfl (fun hc => absurd hc (by decide)) (fun _ => ?_)
            refine zv_ild hB zd113_144 rfl rfl ?_
            refine zv_ild hB zd113_145 rfl rfl ?_
            refine zv_shrw hB zd113_147 ?_
            refine zv_con hB zd113_148 rfl ?_
            refine zv_andw hB zd113_149 ?_
            refine zv_zeq hB zd113_150 rfl (fun hc16 => ?_) (fun hc16 => ?_)
            · rw [if_pos hc16] at h
              refine zv_iincw hB zd113_181 rfl rfl ?_
              refine zv_goto hB zd113_184 rfl ?_
              refine zv_wk hB (L' := [.inr 0, .inr 1000, .inl x2, .inr 1000, .inl x4, .inl (zi_w (x5 + 1)), .inr 1000, .inr 1000]) (F' := [.inr 1, .inr 2, .inl f2]) ⟨fun _ => rfl, fun h => (Nat.lt_irrefl 1000 h).elim, fun _ => rfl, fun h => (Nat.lt_irrefl 1000 h).elim, fun _ => rfl, fun _ => rfl, fun h => (Nat.lt_irrefl 1000 h).elim, fun h => (Nat.lt_irrefl 1000 h).elim, trivial⟩ ⟨fun _ => rfl, fun _ => rfl, fun _ => rfl, trivial⟩ ?_
              exact ih _ _ _ _ _ _ q h hK
            · rw [if_neg hc16] at h
              refine zv_ald hB zd113_153 rfl rfl rfl ?_
              refine zv_getr hB zd113_154 rfl ?_
              refine zv_ild hB zd113_157 rfl rfl ?_
              refine zv_dup2 hB zd113_159 ?_
              refine zv_iald hB zd113_160 rfl rfl (zi_ix_ok c11).1 (zi_ix_ok c11).2 (fun _ _ => ?_)
              refine zv_con hB zd113_161 rfl ?_
              refine zv_ild hB zd113_162 rfl rfl ?_
              refine zv_shlw hB zd113_164 ?_
              refine zv_orw hB zd113_165 ?_
              refine zv_iast hB zd113_166 rfl rfl (zi_ix_ok c11).1 (zi_ix_ok c11).2 ?_
              refine zv_ald hB zd113_167 rfl rfl rfl ?_
              refine zv_getr hB zd113_168 rfl ?_
              refine zv_ild hB zd113_171 rfl rfl ?_
              refine zv_dup2 hB zd113_173 ?_
              refine zv_iald hB zd113_174 rfl rfl (zi_ix_ok c12).1 (zi_ix_ok c12).2 (fun _ _ => ?_)
              refine zv_con hB zd113_175 rfl ?_
              refine zv_ild hB zd113_176 rfl rfl ?_
              refine zv_shlw hB zd113_178 ?_
              refine zv_orw hB zd113_179 ?_
              refine zv_iast hB zd113_180 rfl rfl (zi_ix_ok c12).1 (zi_ix_ok c12).2 ?_
              refine zv_iincw hB zd113_181 rfl rfl ?_
              refine zv_goto hB zd113_184 rfl ?_
              refine zv_wk hB (L' := [.inr 0, .inr 1000, .inl x2, .inr 1000, .inl x4, .inl (zi_w (x5 + 1)), .inr 1000, .inr 1000]) (F' := [.inr 1, .inr 2, .inl f2]) ⟨fun _ => rfl, fun h => (Nat.lt_irrefl 1000 h).elim, fun _ => rfl, fun h => (Nat.lt_irrefl 1000 h).elim, fun _ => rfl, fun _ => rfl, fun h => (Nat.lt_irrefl 1000 h).elim, fun h => (Nat.lt_irrefl 1000 h).elim, trivial⟩ ⟨fun _ => rfl, fun _ => rfl, fun _ => rfl, trivial⟩ ?_
              exact ih _ _ _ _ _ _ q h hK
  have l1 : ∀ (n : Nat) (x2 : Int) (x4 : Int) (f2 : Int) (g1 : (Int → Int)) (g3 : (Int → Int)) (q : (Int → Int)), zf_Matcher_begin_24_l1 x2 g0 n x4 g3 = some q → (good 193 [.inr 1000, .inr 1000, .inr 1000, .inr 1000, .inr 1000, .inr 1000, .inr 1000, .inr 1000] [] [.inr 1, .inr 2, .inl f2] [g0, g1, g2, q]) → good 59 [.inr 0, .inr 1000, .inl x2, .inr 1000, .inl x4, .inr 1000, .inr 1000, .inr 1000] [] [.inr 1, .inr 2, .inl f2] [g0, g1, g2, g3] := by
    intro n
    induction n with
    | zero => intro x2 x4 f2 g1 g3 q h; exact absurd (show none = some q from h) (fun h => by cases h)
    | succ n ih =>
      intro x2 x4 f2 g1 g3 q h hK
      replace h : zf_Matcher_begin_24_l1_b x2 g0 (zf_Matcher_begin_24_l1 x2 g0 n) x4 g3 = some q := h
      unfold zf_Matcher_begin_24_l1_b at h
      refine zv_ild hB zd113_59 rfl rfl ?_
      refine zv_con hB zd113_61 rfl ?_
      refine zv_cge hB zd113_63 rfl (fun hc7 => ?_) (fun hc7 => ?_)
      · rw [if_neg (Int.not_lt.mpr hc7)] at h
        have hq := Option.some.inj h
        subst hq
        refine zv_wk hB (L' := [.inr 1000, .inr 1000, .inr 1000, .inr 1000, .inr 1000, .inr 1000, .inr 1000, .inr 1000]) (F' := [.inr 1, .inr 2, .inl f2]) ⟨fun h => (Nat.lt_irrefl 1000 h).elim, fun h => (Nat.lt_irrefl 1000 h).elim, fun h => (Nat.lt_irrefl 1000 h).elim, fun h => (Nat.lt_irrefl 1000 h).elim, fun h => (Nat.lt_irrefl 1000 h).elim, fun h => (Nat.lt_irrefl 1000 h).elim, fun h => (Nat.lt_irrefl 1000 h).elim, fun h => (Nat.lt_irrefl 1000 h).elim, trivial⟩ ⟨fun _ => rfl, fun _ => rfl, fun _ => rfl, trivial⟩ ?_
        exact hK
      · rw [if_pos hc7] at h
        refine zv_ald hB zd113_66 rfl rfl rfl ?_
        refine zv_getr hB zd113_67 rfl ?_
        refine zv_ild hB zd113_70 rfl rfl ?_
        refine zv_con hB zd113_72 rfl ?_
        refine zv_ild hB zd113_73 rfl rfl ?_
        refine zv_shlw hB zd113_75 ?_
        obtain ⟨c8, h⟩ := zi_if h
        refine zv_iast hB zd113_76 rfl rfl (zi_ix_ok c8).1 (zi_ix_ok c8).2 ?_
        refine zv_con hB zd113_77 rfl ?_
        refine zv_ist hB zd113_78 rfl rfl rfl ?_
        obtain ⟨q17, hq17, h⟩ := zi_bind h
        refine l2 _ _ _ _ _ _ _ q17 hq17 ?_
        show good 187 [.inr 0, .inr 1000, .inl x2, .inr 1000, .inl x4, .inr 1000, .inr 1000, .inr 1000] [] [.inr 1, .inr 2, .inl f2] [g0, g1, g2, q17]
        refine zv_iincw hB zd113_187 rfl rfl ?_
        refine zv_goto hB zd113_190 rfl ?_
        exact ih _ _ _ _ _ q h hK
  unfold zf_Matcher_begin_24 at h
  refine zv_ald hB zd113_0 rfl rfl rfl ?_
  refine zv_ald hB zd113_1 rfl rfl rfl ?_
  refine zv_putq hB zd113_2 rfl rfl (by decide) rfl ?_
  refine zv_ald hB zd113_5 rfl rfl rfl ?_
  refine zv_ald hB zd113_6 rfl rfl rfl ?_
  refine zv_putq hB zd113_7 rfl rfl (by decide) rfl ?_
  refine zv_ald hB zd113_10 rfl rfl rfl ?_
  refine zv_con hB zd113_11 rfl ?_
  refine zv_putf hB zd113_12 rfl rfl (fun h => by cases h) rfl ?_
  refine zv_con hB zd113_15 rfl ?_
  refine zv_ist hB zd113_16 rfl rfl rfl ?_
  obtain ⟨q6, hq6, h⟩ := zi_bind h
  refine zv_wk hB (L' := [.inr 0, .inr 1000, .inl x2, .inr 1000, .inl 0, .inr 1000, .inr 1000, .inr 1000]) (F' := [.inr 1, .inr 2, .inl 0]) ⟨fun _ => rfl, fun h => (Nat.lt_irrefl 1000 h).elim, fun _ => rfl, fun h => (Nat.lt_irrefl 1000 h).elim, fun _ => rfl, fun h => (Nat.lt_irrefl 1000 h).elim, fun h => (Nat.lt_irrefl 1000 h).elim, fun h => (Nat.lt_irrefl 1000 h).elim, trivial⟩ ⟨fun _ => rfl, fun _ => rfl, fun _ => rfl, trivial⟩ ?_
  refine l0 _ _ _ _ _ _ q6 hq6 ?_
  show good 56 [.inr 0, .inr 1000, .inl x2, .inr 1000, .inr 1000, .inr 1000, .inr 1000, .inr 1000] [] [.inr 1, .inr 2, .inl 0] [g0, q6, g2, g3]
  refine zv_con hB zd113_56 rfl ?_
  refine zv_ist hB zd113_57 rfl rfl rfl ?_
  obtain ⟨q18, hq18, h⟩ := zi_bind h
  refine l1 _ _ _ _ _ _ q18 hq18 ?_
  show good 193 [.inr 1000, .inr 1000, .inr 1000, .inr 1000, .inr 1000, .inr 1000, .inr 1000, .inr 1000] [] [.inr 1, .inr 2, .inl 0] [g0, q6, g2, q18]
  have hw := Option.some.inj h
  subst hw
  exact hvret _ _ _ _ zd113_193 trivial ⟨rfl, rfl, rfl⟩
/-! Matcher_tightest (II)I -/
-- names: 0 Matcher('arg', 0), 1 (0, 72)(0, 8, 0), 2 Tale(0, 8, 3), 3 (0, 8)(2, 6, 2)
-- fields: f0 = 0.tale_; arrays: g0 = 1, g1 = 3; out: [('ret', None)]
abbrev zy_Matcher_tightest : zNL := (4, [(0, 8), (2, 6)], [(0, 8, 3, 0)], [(0, 8, 0, 1), (2, 6, 2, 3)], [(1, 0, 72, 0), (3, 0, 8, 1)])
theorem zyw_Matcher_tightest : zv_wf zy_Matcher_tightest = true := by decide +kernel
theorem zye_Matcher_tightest : zv_ek2 zy_Matcher_tightest = true := by decide +kernel
def zf_Matcher_tightest_l0_b (x1 : Int) (x2 : Int) (g0 : (Int → Int)) (g1 : (Int → Int)) (rec : Int → Int → Int → Option (Int)) (x3 : Int) (x4 : Int) (x5 : Int) : Option (Int) := if x5 < 8 then (if (zi_and (zi_shr x2 x5) 1) = 0 then (rec x3 x4 (zi_w (x5 + 1))) else (cond (zi_ix (zi_w ((zi_w (x1 * 8)) + x5)) 72) ((zf_Integer_bitCount (g0 (zi_w ((zi_w (x1 * 8)) + x5)))).bind fun r4 => (cond (zi_ix x5 8) ((zf_Integer_bitCount (g1 x5)).bind fun r6 => (if (zi_w ((zi_w (8 * r4)) - r6)) < x4 then (rec x5 (zi_w ((zi_w (8 * r4)) - r6)) (zi_w (x5 + 1))) else (rec x3 x4 (zi_w (x5 + 1))))) none)) none)) else (some x3)
def zf_Matcher_tightest_l0 (x1 : Int) (x2 : Int) (g0 : (Int → Int)) (g1 : (Int → Int)) : Nat → Int → Int → Int → Option (Int)
  | 0, _, _, _ => none
  | n + 1, x3, x4, x5 => zf_Matcher_tightest_l0_b x1 x2 g0 g1 (zf_Matcher_tightest_l0 x1 x2 g0 g1 n) x3 x4 x5
def zf_Matcher_tightest (x1 : Int) (x2 : Int) (g0 : (Int → Int)) (g1 : (Int → Int)) : Option (Int) := (zf_Matcher_tightest_l0 x1 x2 g0 g1 zi_fu 0 200 0).bind fun q8 => (some q8)
theorem zd116_0 : decode zxm116.2.1 0 = .ok (.iconst 0, 1) := by decide +kernel
theorem zd116_1 : decode zxm116.2.1 1 = .ok (.istore_n 3, 1) := by decide +kernel
theorem zd116_2 : decode zxm116.2.1 2 = .ok (.sipush 200, 3) := by decide +kernel
theorem zd116_5 : decode zxm116.2.1 5 = .ok (.istore 4, 2) := by decide +kernel
theorem zd116_7 : decode zxm116.2.1 7 = .ok (.iconst 0, 1) := by decide +kernel
theorem zd116_8 : decode zxm116.2.1 8 = .ok (.istore 5, 2) := by decide +kernel
theorem zd116_10 : decode zxm116.2.1 10 = .ok (.iload 5, 2) := by decide +kernel
theorem zd116_12 : decode zxm116.2.1 12 = .ok (.bipush 8, 2) := by decide +kernel
theorem zd116_14 : decode zxm116.2.1 14 = .ok (.if_icmp .ge 70, 3) := by decide +kernel
theorem zd116_17 : decode zxm116.2.1 17 = .ok (.iload_n 2, 1) := by decide +kernel
theorem zd116_18 : decode zxm116.2.1 18 = .ok (.iload 5, 2) := by decide +kernel
theorem zd116_20 : decode zxm116.2.1 20 = .ok (.ishr, 1) := by decide +kernel
theorem zd116_21 : decode zxm116.2.1 21 = .ok (.iconst 1, 1) := by decide +kernel
theorem zd116_22 : decode zxm116.2.1 22 = .ok (.iand, 1) := by decide +kernel
theorem zd116_23 : decode zxm116.2.1 23 = .ok (.ifCond .eq 55, 3) := by decide +kernel
theorem zd116_26 : decode zxm116.2.1 26 = .ok (.aload_n 0, 1) := by decide +kernel
theorem zd116_27 : decode zxm116.2.1 27 = .ok (.getfield 11, 3) := by decide +kernel
theorem zd116_30 : decode zxm116.2.1 30 = .ok (.iload_n 1, 1) := by decide +kernel
theorem zd116_31 : decode zxm116.2.1 31 = .ok (.bipush 8, 2) := by decide +kernel
theorem zd116_33 : decode zxm116.2.1 33 = .ok (.imul, 1) := by decide +kernel
theorem zd116_34 : decode zxm116.2.1 34 = .ok (.iload 5, 2) := by decide +kernel
theorem zd116_36 : decode zxm116.2.1 36 = .ok (.iadd, 1) := by decide +kernel
theorem zd116_37 : decode zxm116.2.1 37 = .ok (.iaload, 1) := by decide +kernel
theorem zd116_38 : decode zxm116.2.1 38 = .ok (.invokestatic 55, 3) := by decide +kernel
theorem zd116_41 : decode zxm116.2.1 41 = .ok (.istore 6, 2) := by decide +kernel
theorem zd116_43 : decode zxm116.2.1 43 = .ok (.bipush 8, 2) := by decide +kernel
theorem zd116_45 : decode zxm116.2.1 45 = .ok (.iload 6, 2) := by decide +kernel
theorem zd116_47 : decode zxm116.2.1 47 = .ok (.imul, 1) := by decide +kernel
theorem zd116_48 : decode zxm116.2.1 48 = .ok (.aload_n 0, 1) := by decide +kernel
theorem zd116_49 : decode zxm116.2.1 49 = .ok (.getfield 30, 3) := by decide +kernel
theorem zd116_52 : decode zxm116.2.1 52 = .ok (.getfield 52, 3) := by decide +kernel
theorem zd116_55 : decode zxm116.2.1 55 = .ok (.iload 5, 2) := by decide +kernel
theorem zd116_57 : decode zxm116.2.1 57 = .ok (.iaload, 1) := by decide +kernel
theorem zd116_58 : decode zxm116.2.1 58 = .ok (.invokestatic 55, 3) := by decide +kernel
theorem zd116_61 : decode zxm116.2.1 61 = .ok (.isub, 1) := by decide +kernel
theorem zd116_62 : decode zxm116.2.1 62 = .ok (.istore 7, 2) := by decide +kernel
theorem zd116_64 : decode zxm116.2.1 64 = .ok (.iload 7, 2) := by decide +kernel
theorem zd116_66 : decode zxm116.2.1 66 = .ok (.iload 4, 2) := by decide +kernel
theorem zd116_68 : decode zxm116.2.1 68 = .ok (.if_icmp .ge 10, 3) := by decide +kernel
theorem zd116_71 : decode zxm116.2.1 71 = .ok (.iload 7, 2) := by decide +kernel
theorem zd116_73 : decode zxm116.2.1 73 = .ok (.istore 4, 2) := by decide +kernel
theorem zd116_75 : decode zxm116.2.1 75 = .ok (.iload 5, 2) := by decide +kernel
theorem zd116_77 : decode zxm116.2.1 77 = .ok (.istore_n 3, 1) := by decide +kernel
theorem zd116_78 : decode zxm116.2.1 78 = .ok (.iinc 5 1, 3) := by decide +kernel
theorem zd116_81 : decode zxm116.2.1 81 = .ok (.goto (-71), 3) := by decide +kernel
theorem zd116_84 : decode zxm116.2.1 84 = .ok (.iload_n 3, 1) := by decide +kernel
theorem zd116_85 : decode zxm116.2.1 85 = .ok (.ireturn, 1) := by decide +kernel
theorem zt_Matcher_tightest {x1 : Int} {x2 : Int} {g0 : (Int → Int)} {g1 : (Int → Int)} {o : Int} (h : zf_Matcher_tightest x1 x2 g0 g1 = some o) : zv_Fn z_TB z_cl z_KX zy_Matcher_tightest zxm116 (1, 60) [.inr 0, .inl x1, .inl x2] [.inr 2] [g0, g1] (some o) [.inr 2] [g0, g1] := zv_meth (K := (z_KF4, z_KC4, z_KL4, z_KT4, [], [], [], none)) (FT := z_FT) (MT := z_MT) (n := 3) zxp116 (z_ks4 _ (fun _ h => List.mem_cons_of_mem _ h) _ _ _ _ (fun j r h _ => by cases h)) (fun _ _ => zs_KX_p) zyw_Matcher_tightest (fun va F G h => by obtain ⟨rfl, _⟩ := h; rfl) rfl fun good va F G hB hret hvret hP => by
  obtain ⟨rfl, rfl, rfl⟩ := hP
  have l0 : ∀ (n : Nat) (x1 : Int) (x2 : Int) (x3 : Int) (x4 : Int) (x5 : Int) (q : Int), zf_Matcher_tightest_l0 x1 x2 g0 g1 n x3 x4 x5 = some q → (good 84 [.inr 1000, .inr 1000, .inr 1000, .inl q, .inr 1000, .inr 1000, .inr 1000, .inr 1000] [] [.inr 2] [g0, g1]) → good 10 [.inr 0, .inl x1, .inl x2, .inl x3, .inl x4, .inl x5, .inr 1000, .inr 1000] [] [.inr 2] [g0, g1] := by
    intro n
    induction n with
    | zero => intro x1 x2 x3 x4 x5 q h; exact absurd (show none = some q from h) (fun h => by cases h)
    | succ n ih =>
      intro x1 x2 x3 x4 x5 q h hK
      replace h : zf_Matcher_tightest_l0_b x1 x2 g0 g1 (zf_Matcher_tightest_l0 x1 x2 g0 g1 n) x3 x4 x5 = some q := h
      unfold zf_Matcher_tightest_l0_b at h
      refine zv_ild hB zd116_10 rfl rfl ?_
      refine zv_con hB zd116_12 rfl ?_
      refine zv_cge hB zd116_14 rfl (fun hc1 => ?_) (fun hc1 => ?_)
      · rw [if_neg (Int.not_lt.mpr hc1)] at h
        have hq := Option.some.inj h
        subst hq
        refine zv_wk hB (L' := [.inr 1000, .inr 1000, .inr 1000, .inl x3, .inr 1000, .inr 1000, .inr 1000, .inr 1000]) (F' := [.inr 2]) ⟨fun h => (Nat.lt_irrefl 1000 h).elim, fun h => (Nat.lt_irrefl 1000 h).elim, fun h => (Nat.lt_irrefl 1000 h).elim, fun _ => rfl, fun h => (Nat.lt_irrefl 1000 h).elim, fun h => (Nat.lt_irrefl 1000 h).elim, fun h => (Nat.lt_irrefl 1000 h).elim, fun h => (Nat.lt_irrefl 1000 h).elim, trivial⟩ ⟨fun _ => rfl, trivial⟩ ?_
        exact hK
      · rw [if_pos hc1] at h
        refine zv_ild hB zd116_17 rfl rfl ?_
        refine zv_ild hB zd116_18 rfl rfl ?_
        refine zv_shrw hB zd116_20 ?_
        refine zv_con hB zd116_21 rfl ?_
        refine zv_andw hB zd116_22 ?_
        refine zv_zeq hB zd116_23 rfl (fun hc2 => ?_) (fun hc2 => ?_)
        · rw [if_pos hc2] at h
          refine zv_iincw hB zd116_78 rfl rfl ?_
          refine zv_goto hB zd116_81 rfl ?_
          exact ih _ _ _ _ _ q h hK
        · rw [if_neg hc2] at h
          refine zv_ald hB zd116_26 rfl rfl rfl ?_
          refine zv_getr hB zd116_27 rfl ?_
          refine zv_ild hB zd116_30 rfl rfl ?_
          refine zv_con hB zd116_31 rfl ?_
          refine zv_mulw hB zd116_33 ?_
          refine zv_ild hB zd116_34 rfl rfl ?_
          refine zv_addw hB zd116_36 ?_
          obtain ⟨c3, h⟩ := zi_if h
          refine zv_iald hB zd116_37 rfl rfl (zi_ix_ok c3).1 (zi_ix_ok c3).2 (fun _ _ => ?_)
          obtain ⟨r4, hr4, h⟩ := zi_bind h
          refine zv_cs hB (show zv_Fn _ _ _ zy_Matcher_tightest _ _ [.inl (g0 (zi_w ((zi_w (x1 * 8)) + x5)))] [.inr 2] [g0, g1] (some r4) [.inr 2] [g0, g1] from zv_emb (F := [.inr 2]) (G := [g0, g1]) zyw_Integer_bitCount zyw_Matcher_tightest zye_Matcher_tightest (by decide +kernel : zv_ek zy_Integer_bitCount zy_Matcher_tightest [] [] [] = true) (zt_Integer_bitCount hr4) trivial trivial) zd116_38 zxt102 rfl (by decide) (by decide) rfl ?_
          refine zv_ist hB zd116_41 rfl rfl rfl ?_
          refine zv_con hB zd116_43 rfl ?_
          refine zv_ild hB zd116_45 rfl rfl ?_
          refine zv_mulw hB zd116_47 ?_
          refine zv_ald hB zd116_48 rfl rfl rfl ?_
          refine zv_getq hB zd116_49 rfl rfl rfl ?_
          refine zv_getr hB zd116_52 rfl ?_
          refine zv_ild hB zd116_55 rfl rfl ?_
          obtain ⟨c5, h⟩ := zi_if h
          refine zv_iald hB zd116_57 rfl rfl (zi_ix_ok c5).1 (zi_ix_ok c5).2 (fun _ _ => ?_)
          obtain ⟨r6, hr6, h⟩ := zi_bind h
          refine zv_cs hB (show zv_Fn _ _ _ zy_Matcher_tightest _ _ [.inl (g1 x5)] [.inr 2] [g0, g1] (some r6) [.inr 2] [g0, g1] from zv_emb (F := [.inr 2]) (G := [g0, g1]) zyw_Integer_bitCount zyw_Matcher_tightest zye_Matcher_tightest (by decide +kernel : zv_ek zy_Integer_bitCount zy_Matcher_tightest [] [] [] = true) (zt_Integer_bitCount hr6) trivial trivial) zd116_58 zxt102 rfl (by decide) (by decide) rfl ?_
          refine zv_subw hB zd116_61 ?_
          refine zv_ist hB zd116_62 rfl rfl rfl ?_
          refine zv_ild hB zd116_64 rfl rfl ?_
          refine zv_ild hB zd116_66 rfl rfl ?_
          refine zv_cge hB zd116_68 rfl (fun hc7 => ?_) (fun hc7 => ?_)
          · rw [if_neg (Int.not_lt.mpr hc7)] at h
            refine zv_iincw hB zd116_78 rfl rfl ?_
            refine zv_goto hB zd116_81 rfl ?_
            refine zv_wk hB (L' := [.inr 0, .inl x1, .inl x2, .inl x3, .inl x4, .inl (zi_w (x5 + 1)), .inr 1000, .inr 1000]) (F' := [.inr 2]) ⟨fun _ => rfl, fun _ => rfl, fun _ => rfl, fun _ => rfl, fun _ => rfl, fun _ => rfl, fun h => (Nat.lt_irrefl 1000 h).elim, fun h => (Nat.lt_irrefl 1000 h).elim, trivial⟩ ⟨fun _ => rfl, trivial⟩ ?_
            exact ih _ _ _ _ _ q h hK
          · rw [if_pos hc7] at h
            refine zv_ild hB zd116_71 rfl rfl ?_
            refine zv_ist hB zd116_73 rfl rfl rfl ?_
            refine zv_ild hB zd116_75 rfl rfl ?_
            refine zv_ist hB zd116_77 rfl rfl rfl ?_
            refine zv_iincw hB zd116_78 rfl rfl ?_
            refine zv_goto hB zd116_81 rfl ?_
            refine zv_wk hB (L' := [.inr 0, .inl x1, .inl x2, .inl x5, .inl (zi_w ((zi_w (8 * r4)) - r6)), .inl (zi_w (x5 + 1)), .inr 1000, .inr 1000]) (F' := [.inr 2]) ⟨fun _ => rfl, fun _ => rfl, fun _ => rfl, fun _ => rfl, fun _ => rfl, fun _ => rfl, fun h => (Nat.lt_irrefl 1000 h).elim, fun h => (Nat.lt_irrefl 1000 h).elim, trivial⟩ ⟨fun _ => rfl, trivial⟩ ?_
            exact ih _ _ _ _ _ q h hK
  unfold zf_Matcher_tightest at h
  refine zv_con hB zd116_0 rfl ?_
  refine zv_ist hB zd116_1 rfl rfl rfl ?_
  refine zv_con hB zd116_2 rfl ?_
  refine zv_ist hB zd116_5 rfl rfl rfl ?_
  refine zv_con hB zd116_7 rfl ?_
  refine zv_ist hB zd116_8 rfl rfl rfl ?_
  obtain ⟨q8, hq8, h⟩ := zi_bind h
  refine l0 _ _ _ _ _ _ q8 hq8 ?_
  show good 84 [.inr 1000, .inr 1000, .inr 1000, .inl q8, .inr 1000, .inr 1000, .inr 1000, .inr 1000] [] [.inr 2] [g0, g1]
  refine zv_ild hB zd116_84 rfl rfl ?_
  have hw := Option.some.inj h
  subst hw
  exact hret _ _ _ _ _ zd116_85 (by trivial) ⟨rfl, rfl, rfl⟩
/-! Matcher_narrow (IIII)Z -/
-- names: 0 Matcher('arg', 0), 1 (0, 72)(0, 8, 0), 2 Tale(0, 8, 3), 3 (0, 8)(2, 6, 2), 4 (0, 24)(0, 8, 4)
-- fields: f0 = 0.tale_, f1 = 0.joined_; arrays: g0 = 1, g1 = 3, g2 = 4; out: [('ret', None), ('g', 0)]
abbrev zy_Matcher_narrow : zNL := (5, [(0, 8), (2, 6)], [(0, 8, 3, 0), (0, 8, 4, 1)], [(0, 8, 0, 1), (2, 6, 2, 3)], [(1, 0, 72, 0), (3, 0, 8, 1), (4, 0, 24, 2)])
theorem zyw_Matcher_narrow : zv_wf zy_Matcher_narrow = true := by decide +kernel
theorem zye_Matcher_narrow : zv_ek2 zy_Matcher_narrow = true := by decide +kernel
def zf_Matcher_narrow_l0_b (x2 : Int) (x3 : Int) (x4 : Int) (x5 : Int) (x6 : Int) (g1 : (Int → Int)) (g2 : (Int → Int)) (rec : Int → (Int → Int) → Option ((((Int → Int)) ⊕ (Int × (Int → Int))))) (x7 : Int) (g0 : (Int → Int)) : Option ((((Int → Int)) ⊕ (Int × (Int → Int)))) := if x7 < 8 then (if (zi_and (zi_shr x2 x7) 1) = 0 then (rec (zi_w (x7 + 1)) g0) else (cond (zi_ix (zi_w (x5 + x7)) 72) (cond (zi_ix x3 8) (if (zi_and (zi_shr (g1 x3) x7) 1) = 0 then (if (zi_and (g0 (zi_w (x5 + x7))) (zi_xor (zi_shl 1 x4) (-1))) = 0 then (some (.inr (0, g0))) else (cond (zi_ix (zi_w (x6 + x7)) 72) (rec (zi_w (x7 + 1)) (zv_up g0 (zi_w (x6 + x7)) (zi_and (g0 (zi_w (x5 + x7))) (zi_xor (zi_shl 1 x4) (-1))))) none)) else (cond (zi_ix x4 24) (if (zi_and (zi_and (g0 (zi_w (x5 + x7))) (zi_xor (zi_shl 1 x4) (-1))) (g2 x4)) = 0 then (some (.inr (0, g0))) else (cond (zi_ix (zi_w (x6 + x7)) 72) (rec (zi_w (x7 + 1)) (zv_up g0 (zi_w (x6 + x7)) (zi_and (zi_and (g0 (zi_w (x5 + x7))) (zi_xor (zi_shl 1 x4) (-1))) (g2 x4)))) none)) none)) none) none)) else (some (.inl g0))
def zf_Matcher_narrow_l0 (x2 : Int) (x3 : Int) (x4 : Int) (x5 : Int) (x6 : Int) (g1 : (Int → Int)) (g2 : (Int → Int)) : Nat → Int → (Int → Int) → Option ((((Int → Int)) ⊕ (Int × (Int → Int))))
  | 0, _, _ => none
  | n + 1, x7, g0 => zf_Matcher_narrow_l0_b x2 x3 x4 x5 x6 g1 g2 (zf_Matcher_narrow_l0 x2 x3 x4 x5 x6 g1 g2 n) x7 g0
def zf_Matcher_narrow (x1 : Int) (x2 : Int) (x3 : Int) (x4 : Int) (g0 : (Int → Int)) (g1 : (Int → Int)) (g2 : (Int → Int)) : Option (Int × (Int → Int)) := (zf_Matcher_narrow_l0 x2 x3 x4 (zi_w (x1 * 8)) (zi_w ((zi_w (x1 * 8)) + 8)) g1 g2 zi_fu 0 g0).bind fun q11 => Sum.elim (fun e12 => (some (1, e12))) (fun w13 => some w13) q11
theorem zd117_0 : decode zxm117.2.1 0 = .ok (.iload_n 1, 1) := by decide +kernel
theorem zd117_1 : decode zxm117.2.1 1 = .ok (.bipush 8, 2) := by decide +kernel
theorem zd117_3 : decode zxm117.2.1 3 = .ok (.imul, 1) := by decide +kernel
theorem zd117_4 : decode zxm117.2.1 4 = .ok (.istore 5, 2) := by decide +kernel
theorem zd117_6 : decode zxm117.2.1 6 = .ok (.iload 5, 2) := by decide +kernel
theorem zd117_8 : decode zxm117.2.1 8 = .ok (.bipush 8, 2) := by decide +kernel
theorem zd117_10 : decode zxm117.2.1 10 = .ok (.iadd, 1) := by decide +kernel
theorem zd117_11 : decode zxm117.2.1 11 = .ok (.istore 6, 2) := by decide +kernel
theorem zd117_13 : decode zxm117.2.1 13 = .ok (.iconst 0, 1) := by decide +kernel
theorem zd117_14 : decode zxm117.2.1 14 = .ok (.istore 7, 2) := by decide +kernel
theorem zd117_16 : decode zxm117.2.1 16 = .ok (.iload 7, 2) := by decide +kernel
theorem zd117_18 : decode zxm117.2.1 18 = .ok (.bipush 8, 2) := by decide +kernel
theorem zd117_20 : decode zxm117.2.1 20 = .ok (.if_icmp .ge 85, 3) := by decide +kernel
theorem zd117_23 : decode zxm117.2.1 23 = .ok (.iload_n 2, 1) := by decide +kernel
theorem zd117_24 : decode zxm117.2.1 24 = .ok (.iload 7, 2) := by decide +kernel
theorem zd117_26 : decode zxm117.2.1 26 = .ok (.ishr, 1) := by decide +kernel
theorem zd117_27 : decode zxm117.2.1 27 = .ok (.iconst 1, 1) := by decide +kernel
theorem zd117_28 : decode zxm117.2.1 28 = .ok (.iand, 1) := by decide +kernel
theorem zd117_29 : decode zxm117.2.1 29 = .ok (.ifCond .eq 70, 3) := by decide +kernel
theorem zd117_32 : decode zxm117.2.1 32 = .ok (.aload_n 0, 1) := by decide +kernel
theorem zd117_33 : decode zxm117.2.1 33 = .ok (.getfield 11, 3) := by decide +kernel
theorem zd117_36 : decode zxm117.2.1 36 = .ok (.iload 5, 2) := by decide +kernel
theorem zd117_38 : decode zxm117.2.1 38 = .ok (.iload 7, 2) := by decide +kernel
theorem zd117_40 : decode zxm117.2.1 40 = .ok (.iadd, 1) := by decide +kernel
theorem zd117_41 : decode zxm117.2.1 41 = .ok (.iaload, 1) := by decide +kernel
theorem zd117_42 : decode zxm117.2.1 42 = .ok (.iconst 1, 1) := by decide +kernel
theorem zd117_43 : decode zxm117.2.1 43 = .ok (.iload 4, 2) := by decide +kernel
theorem zd117_45 : decode zxm117.2.1 45 = .ok (.ishl, 1) := by decide +kernel
theorem zd117_46 : decode zxm117.2.1 46 = .ok (.iconst (-1), 1) := by decide +kernel
theorem zd117_47 : decode zxm117.2.1 47 = .ok (.ixor, 1) := by decide +kernel
theorem zd117_48 : decode zxm117.2.1 48 = .ok (.iand, 1) := by decide +kernel
theorem zd117_49 : decode zxm117.2.1 49 = .ok (.istore 8, 2) := by decide +kernel
theorem zd117_51 : decode zxm117.2.1 51 = .ok (.aload_n 0, 1) := by decide +kernel
theorem zd117_52 : decode zxm117.2.1 52 = .ok (.getfield 30, 3) := by decide +kernel
theorem zd117_55 : decode zxm117.2.1 55 = .ok (.getfield 52, 3) := by decide +kernel
theorem zd117_58 : decode zxm117.2.1 58 = .ok (.iload_n 3, 1) := by decide +kernel
theorem zd117_59 : decode zxm117.2.1 59 = .ok (.iaload, 1) := by decide +kernel
theorem zd117_60 : decode zxm117.2.1 60 = .ok (.iload 7, 2) := by decide +kernel
theorem zd117_62 : decode zxm117.2.1 62 = .ok (.ishr, 1) := by decide +kernel
theorem zd117_63 : decode zxm117.2.1 63 = .ok (.iconst 1, 1) := by decide +kernel
theorem zd117_64 : decode zxm117.2.1 64 = .ok (.iand, 1) := by decide +kernel
theorem zd117_65 : decode zxm117.2.1 65 = .ok (.ifCond .eq 15, 3) := by decide +kernel
theorem zd117_68 : decode zxm117.2.1 68 = .ok (.iload 8, 2) := by decide +kernel
theorem zd117_70 : decode zxm117.2.1 70 = .ok (.aload_n 0, 1) := by decide +kernel
theorem zd117_71 : decode zxm117.2.1 71 = .ok (.getfield 34, 3) := by decide +kernel
theorem zd117_74 : decode zxm117.2.1 74 = .ok (.iload 4, 2) := by decide +kernel
theorem zd117_76 : decode zxm117.2.1 76 = .ok (.iaload, 1) := by decide +kernel
theorem zd117_77 : decode zxm117.2.1 77 = .ok (.iand, 1) := by decide +kernel
theorem zd117_78 : decode zxm117.2.1 78 = .ok (.istore 8, 2) := by decide +kernel
theorem zd117_80 : decode zxm117.2.1 80 = .ok (.iload 8, 2) := by decide +kernel
theorem zd117_82 : decode zxm117.2.1 82 = .ok (.ifCond .ne 5, 3) := by decide +kernel
theorem zd117_85 : decode zxm117.2.1 85 = .ok (.iconst 0, 1) := by decide +kernel
theorem zd117_86 : decode zxm117.2.1 86 = .ok (.ireturn, 1) := by decide +kernel
theorem zd117_87 : decode zxm117.2.1 87 = .ok (.aload_n 0, 1) := by decide +kernel
theorem zd117_88 : decode zxm117.2.1 88 = .ok (.getfield 11, 3) := by decide +kernel
theorem zd117_91 : decode zxm117.2.1 91 = .ok (.iload 6, 2) := by decide +kernel
theorem zd117_93 : decode zxm117.2.1 93 = .ok (.iload 7, 2) := by decide +kernel
theorem zd117_95 : decode zxm117.2.1 95 = .ok (.iadd, 1) := by decide +kernel
theorem zd117_96 : decode zxm117.2.1 96 = .ok (.iload 8, 2) := by decide +kernel
theorem zd117_98 : decode zxm117.2.1 98 = .ok (.iastore, 1) := by decide +kernel
theorem zd117_99 : decode zxm117.2.1 99 = .ok (.iinc 7 1, 3) := by decide +kernel
theorem zd117_102 : decode zxm117.2.1 102 = .ok (.goto (-86), 3) := by decide +kernel
theorem zd117_105 : decode zxm117.2.1 105 = .ok (.iconst 1, 1) := by decide +kernel
theorem zd117_106 : decode zxm117.2.1 106 = .ok (.ireturn, 1) := by decide +kernel
theorem zt_Matcher_narrow {x1 : Int} {x2 : Int} {x3 : Int} {x4 : Int} {g0 : (Int → Int)} {g1 : (Int → Int)} {g2 : (Int → Int)} {o : Int × (Int → Int)} (h : zf_Matcher_narrow x1 x2 x3 x4 g0 g1 g2 = some o) : zv_Fn z_TB z_cl z_KX zy_Matcher_narrow zxm117 (0, 0) [.inr 0, .inl x1, .inl x2, .inl x3, .inl x4] [.inr 2, .inr 4] [g0, g1, g2] (some o.1) [.inr 2, .inr 4] [o.2, g1, g2] := zv_meth (K := (z_KF4, z_KC4, z_KL4, z_KT4, [], [], [], none)) (FT := z_FT) (MT := z_MT) (n := 5) zxp117 (z_ks4 _ (fun _ h => List.mem_cons_of_mem _ h) _ _ _ _ (fun j r h _ => by cases h)) (fun _ _ => zs_KX_p) zyw_Matcher_narrow (fun va F G h => by obtain ⟨rfl, _⟩ := h; rfl) rfl fun good va F G hB hret hvret hP => by
  obtain ⟨rfl, rfl, rfl⟩ := hP
  have l0 : ∀ (n : Nat) (x2 : Int) (x3 : Int) (x4 : Int) (x5 : Int) (x6 : Int) (x7 : Int) (g0 : (Int → Int)) (q : (((Int → Int)) ⊕ (Int × (Int → Int)))), zf_Matcher_narrow_l0 x2 x3 x4 x5 x6 g1 g2 n x7 g0 = some q → (Sum.elim (fun e : (Int → Int) => good 105 [.inr 1000, .inr 1000, .inr 1000, .inr 1000, .inr 1000, .inr 1000, .inr 1000, .inr 1000, .inr 1000] [] [.inr 2, .inr 4] [e, g1, g2]) (fun w : Int × (Int → Int) => w = o) q) → good 16 [.inr 0, .inr 1000, .inl x2, .inl x3, .inl x4, .inl x5, .inl x6, .inl x7, .inr 1000] [] [.inr 2, .inr 4] [g0, g1, g2] := by
    intro n
    induction n with
    | zero => intro x2 x3 x4 x5 x6 x7 g0 q h; exact absurd (show none = some q from h) (fun h => by cases h)
    | succ n ih =>
      intro x2 x3 x4 x5 x6 x7 g0 q h hK
      replace h : zf_Matcher_narrow_l0_b x2 x3 x4 x5 x6 g1 g2 (zf_Matcher_narrow_l0 x2 x3 x4 x5 x6 g1 g2 n) x7 g0 = some q := h
      unfold zf_Matcher_narrow_l0_b at h
      refine zv_ild hB zd117_16 rfl rfl ?_
      refine zv_con hB zd117_18 rfl ?_
      refine zv_cge hB zd117_20 rfl (fun hc1 => ?_) (fun hc1 => ?_)
      · rw [if_neg (Int.not_lt.mpr hc1)] at h
        have hq := Option.some.inj h
        subst hq
        refine zv_wk hB (L' := [.inr 1000, .inr 1000, .inr 1000, .inr 1000, .inr 1000, .inr 1000, .inr 1000, .inr 1000, .inr 1000]) (F' := [.inr 2, .inr 4]) ⟨fun h => (Nat.lt_irrefl 1000 h).elim, fun h => (Nat.lt_irrefl 1000 h).elim, fun h => (Nat.lt_irrefl 1000 h).elim, fun h => (Nat.lt_irrefl 1000 h).elim, fun h => (Nat.lt_irrefl 1000 h).elim, fun h => (Nat.lt_irrefl 1000 h).elim, fun h => (Nat.lt_irrefl 1000 h).elim, fun h => (Nat.lt_irrefl 1000 h).elim, fun h => (Nat.lt_irrefl 1000 h).elim, trivial⟩ ⟨fun _ => rfl, fun _ => rfl, trivial⟩ ?_
        exact hK
      · rw [if_pos hc1] at h
        refine zv_ild hB zd117_23 rfl rfl ?_
        refine zv_ild hB zd117_24 rfl rfl ?_
        refine zv_shrw hB zd117_26 ?_
        refine zv_con hB zd117_27 rfl ?_
        refine zv_andw hB zd117_28 ?_
        refine zv_zeq hB zd117_29 rfl (fun hc2 => ?_) (fun hc2 => ?_)
        · rw [if_pos hc2] at h
          refine zv_iincw hB zd117_99 rfl rfl ?_
          refine zv_goto hB zd117_102 rfl ?_
          exact ih _ _ _ _ _ _ _ q h hK
        · rw [if_neg hc2] at h
          refine zv_ald hB zd117_32 rfl rfl rfl ?_
          refine zv_getr hB zd117_33 rfl ?_
          refine zv_ild hB zd117_36 rfl rfl ?_
          refine zv_ild hB zd117_38 rfl rfl ?_
          refine zv_addw hB zd117_40 ?_
          obtain ⟨c3, h⟩ := zi_if h
          refine zv_iald hB zd117_41 rfl rfl (zi_ix_ok c3).1 (zi_ix_ok c3).2 (fun _ _ => ?_)
          refine zv_con hB zd117_42 rfl ?_
          refine zv_ild hB zd117_43 rfl rfl ?_
          refine zv_shlw hB zd117_45 ?_
          refine zv_con hB zd117_46 rfl ?_
          refine zv_xorw hB zd117_47 ?_
          refine zv_andw hB zd117_48 ?_
          refine zv_ist hB zd117_49 rfl rfl rfl ?_
          refine zv_ald hB zd117_51 rfl rfl rfl ?_
          refine zv_getq hB zd117_52 rfl rfl rfl ?_
          refine zv_getr hB zd117_55 rfl ?_
          refine zv_ild hB zd117_58 rfl rfl ?_
          obtain ⟨c4, h⟩ := zi_if h
          refine zv_iald hB zd117_59 rfl rfl (zi_ix_ok c4).1 (zi_ix_ok c4).2 (fun _ _ => ?_)
          refine zv_ild hB zd117_60 rfl rfl ?_
          refine zv_shrw hB zd117_62 ?_
          refine zv_con hB zd117_63 rfl ?_
          refine zv_andw hB zd117_64 ?_
          refine zv_zeq hB zd117_65 rfl (fun hc5 => ?_) (fun hc5 => ?_)
          · rw [if_pos hc5] at h
            refine zv_ild hB zd117_80 rfl rfl ?_
            refine zv_zne hB zd117_82 rfl (fun hc6 => ?_) (fun hc6 => ?_)
            · rw [if_neg hc6] at h
              refine zv_ald hB zd117_87 rfl rfl rfl ?_
              refine zv_getr hB zd117_88 rfl ?_
              refine zv_ild hB zd117_91 rfl rfl ?_
              refine zv_ild hB zd117_93 rfl rfl ?_
              refine zv_addw hB zd117_95 ?_
              refine zv_ild hB zd117_96 rfl rfl ?_
              obtain ⟨c7, h⟩ := zi_if h
              refine zv_iast hB zd117_98 rfl rfl (zi_ix_ok c7).1 (zi_ix_ok c7).2 ?_
              refine zv_iincw hB zd117_99 rfl rfl ?_
              refine zv_goto hB zd117_102 rfl ?_
              refine zv_wk hB (L' := [.inr 0, .inr 1000, .inl x2, .inl x3, .inl x4, .inl x5, .inl x6, .inl (zi_w (x7 + 1)), .inr 1000]) (F' := [.inr 2, .inr 4]) ⟨fun _ => rfl, fun h => (Nat.lt_irrefl 1000 h).elim, fun _ => rfl, fun _ => rfl, fun _ => rfl, fun _ => rfl, fun _ => rfl, fun _ => rfl, fun h => (Nat.lt_irrefl 1000 h).elim, trivial⟩ ⟨fun _ => rfl, fun _ => rfl, trivial⟩ ?_
              exact ih _ _ _ _ _ _ _ q h hK
            · rw [if_pos hc6] at h
              refine zv_con hB zd117_85 rfl ?_
              have hw : (0, g0) = o := zi_rk (Option.some.inj h) hK
              subst hw
              exact hret _ _ _ _ _ zd117_86 (by constructor <;> decide) ⟨rfl, rfl, rfl⟩
          · rw [if_neg hc5] at h
            refine zv_ild hB zd117_68 rfl rfl ?_
            refine zv_ald hB zd117_70 rfl rfl rfl ?_
            refine zv_getq hB zd117_71 rfl rfl rfl ?_
            refine zv_ild hB zd117_74 rfl rfl ?_
            obtain ⟨c8, h⟩ := zi_if h
            refine zv_iald hB zd117_76 rfl rfl (zi_ix_ok c8).1 (zi_ix_ok c8).2 (fun _ _ => ?_)
            refine zv_andw hB zd117_77 ?_
            refine zv_ist hB zd117_78 rfl rfl rfl ?_
            refine zv_ild hB zd117_80 rfl rfl ?_
            refine zv_zne hB zd117_82 rfl (fun hc9 => ?_) (fun hc9 => ?_)
            · rw [if_neg hc9] at h
              refine zv_ald hB zd117_87 rfl rfl rfl ?_
              refine zv_getr hB zd117_88 rfl ?_
              refine zv_ild hB zd117_91 rfl rfl ?_
              refine zv_ild hB zd117_93 rfl rfl ?_
              refine zv_addw hB zd117_95 ?_
              refine zv_ild hB zd117_96 rfl rfl ?_
              obtain ⟨c10, h⟩ := zi_if h
              refine zv_iast hB zd117_98 rfl rfl (zi_ix_ok c10).1 (zi_ix_ok c10).2 ?_
              refine zv_iincw hB zd117_99 rfl rfl ?_
              refine zv_goto hB zd117_102 rfl ?_
              refine zv_wk hB (L' := [.inr 0, .inr 1000, .inl x2, .inl x3, .inl x4, .inl x5, .inl x6, .inl (zi_w (x7 + 1)), .inr 1000]) (F' := [.inr 2, .inr 4]) ⟨fun _ => rfl, fun h => (Nat.lt_irrefl 1000 h).elim, fun _ => rfl, fun _ => rfl, fun _ => rfl, fun _ => rfl, fun _ => rfl, fun _ => rfl, fun h => (Nat.lt_irrefl 1000 h).elim, trivial⟩ ⟨fun _ => rfl, fun _ => rfl, trivial⟩ ?_
              exact ih _ _ _ _ _ _ _ q h hK
            · rw [if_pos hc9] at h
              refine zv_con hB zd117_85 rfl ?_
              have hw : (0, g0) = o := zi_rk (Option.some.inj h) hK
              subst hw
              exact hret _ _ _ _ _ zd117_86 (by constructor <;> decide) ⟨rfl, rfl, rfl⟩
  unfold zf_Matcher_narrow at h
  refine zv_ild hB zd117_0 rfl rfl ?_
  refine zv_con hB zd117_1 rfl ?_
  refine zv_mulw hB zd117_3 ?_
  refine zv_ist hB zd117_4 rfl rfl rfl ?_
  refine zv_ild hB zd117_6 rfl rfl ?_
  refine zv_con hB zd117_8 rfl ?_
  refine zv_addw hB zd117_10 ?_
  refine zv_ist hB zd117_11 rfl rfl rfl ?_
  refine zv_con hB zd117_13 rfl ?_
  refine zv_ist hB zd117_14 rfl rfl rfl ?_
  obtain ⟨q11, hq11, h⟩ := zi_bind h
  refine zv_wk hB (L' := [.inr 0, .inr 1000, .inl x2, .inl x3, .inl x4, .inl (zi_w (x1 * 8)), .inl (zi_w ((zi_w (x1 * 8)) + 8)), .inl 0, .inr 1000]) (F' := [.inr 2, .inr 4]) ⟨fun _ => rfl, fun h => (Nat.lt_irrefl 1000 h).elim, fun _ => rfl, fun _ => rfl, fun _ => rfl, fun _ => rfl, fun _ => rfl, fun _ => rfl, fun h => (Nat.lt_irrefl 1000 h).elim, trivial⟩ ⟨fun _ => rfl, fun _ => rfl, trivial⟩ ?_
  refine l0 _ _ _ _ _ _ _ _ q11 hq11 ?_
  rcases q11 with e12 | w13
  · replace h := zi_sl h
    show good 105 [.inr 1000, .inr 1000, .inr 1000, .inr 1000, .inr 1000, .inr 1000, .inr 1000, .inr 1000, .inr 1000] [] [.inr 2, .inr 4] [e12, g1, g2]
    refine zv_con hB zd117_105 rfl ?_
    have hw := Option.some.inj h
    subst hw
    exact hret _ _ _ _ _ zd117_106 (by constructor <;> decide) ⟨rfl, rfl, rfl⟩
  · exact Option.some.inj h
/-! Matcher_besides (I)I -/
-- names: 0 Matcher('arg', 0), 1 (0, 24)(0, 8, 4)
-- fields: f0 = 0.joined_; arrays: g0 = 1; out: [('ret', None)]
abbrev zy_Matcher_besides : zNL := (2, [(0, 8)], [(0, 8, 4, 0)], [], [(1, 0, 24, 0)])
theorem zyw_Matcher_besides : zv_wf zy_Matcher_besides = true := by decide +kernel
theorem zye_Matcher_besides : zv_ek2 zy_Matcher_besides = true := by decide +kernel
def zf_Matcher_besides_l0_b (x1 : Int) (g0 : (Int → Int)) (rec : Int → Int → Option (Int)) (x2 : Int) (x3 : Int) : Option (Int) := if x3 < 24 then (if (zi_and (zi_shr x1 x3) 1) = 0 then (rec x2 (zi_w (x3 + 1))) else (cond (zi_ix x3 24) (rec (zi_or x2 (g0 x3)) (zi_w (x3 + 1))) none)) else (some x2)
def zf_Matcher_besides_l0 (x1 : Int) (g0 : (Int → Int)) : Nat → Int → Int → Option (Int)
  | 0, _, _ => none
  | n + 1, x2, x3 => zf_Matcher_besides_l0_b x1 g0 (zf_Matcher_besides_l0 x1 g0 n) x2 x3
def zf_Matcher_besides (x1 : Int) (g0 : (Int → Int)) : Option (Int) := (zf_Matcher_besides_l0 x1 g0 zi_fu 0 0).bind fun q4 => (some q4)
theorem zd119_0 : decode zxm119.2.1 0 = .ok (.iconst 0, 1) := by decide +kernel
theorem zd119_1 : decode zxm119.2.1 1 = .ok (.istore_n 2, 1) := by decide +kernel
theorem zd119_2 : decode zxm119.2.1 2 = .ok (.iconst 0, 1) := by decide +kernel
theorem zd119_3 : decode zxm119.2.1 3 = .ok (.istore_n 3, 1) := by decide +kernel
theorem zd119_4 : decode zxm119.2.1 4 = .ok (.iload_n 3, 1) := by decide +kernel
theorem zd119_5 : decode zxm119.2.1 5 = .ok (.bipush 24, 2) := by decide +kernel
theorem zd119_7 : decode zxm119.2.1 7 = .ok (.if_icmp .ge 26, 3) := by decide +kernel
theorem zd119_10 : decode zxm119.2.1 10 = .ok (.iload_n 1, 1) := by decide +kernel
theorem zd119_11 : decode zxm119.2.1 11 = .ok (.iload_n 3, 1) := by decide +kernel
theorem zd119_12 : decode zxm119.2.1 12 = .ok (.ishr, 1) := by decide +kernel
theorem zd119_13 : decode zxm119.2.1 13 = .ok (.iconst 1, 1) := by decide +kernel
theorem zd119_14 : decode zxm119.2.1 14 = .ok (.iand, 1) := by decide +kernel
theorem zd119_15 : decode zxm119.2.1 15 = .ok (.ifCond .eq 12, 3) := by decide +kernel
theorem zd119_18 : decode zxm119.2.1 18 = .ok (.iload_n 2, 1) := by decide +kernel
theorem zd119_19 : decode zxm119.2.1 19 = .ok (.aload_n 0, 1) := by decide +kernel
theorem zd119_20 : decode zxm119.2.1 20 = .ok (.getfield 34, 3) := by decide +kernel
theorem zd119_23 : decode zxm119.2.1 23 = .ok (.iload_n 3, 1) := by decide +kernel
theorem zd119_24 : decode zxm119.2.1 24 = .ok (.iaload, 1) := by decide +kernel
theorem zd119_25 : decode zxm119.2.1 25 = .ok (.ior, 1) := by decide +kernel
theorem zd119_26 : decode zxm119.2.1 26 = .ok (.istore_n 2, 1) := by decide +kernel
theorem zd119_27 : decode zxm119.2.1 27 = .ok (.iinc 3 1, 3) := by decide +kernel
theorem zd119_30 : decode zxm119.2.1 30 = .ok (.goto (-26), 3) := by decide +kernel
theorem zd119_33 : decode zxm119.2.1 33 = .ok (.iload_n 2, 1) := by decide +kernel
theorem zd119_34 : decode zxm119.2.1 34 = .ok (.ireturn, 1) := by decide +kernel
theorem zt_Matcher_besides {x1 : Int} {g0 : (Int → Int)} {o : Int} (h : zf_Matcher_besides x1 g0 = some o) : zv_Fn z_TB z_cl z_KX zy_Matcher_besides zxm119 (0, 0) [.inr 0, .inl x1] [.inr 1] [g0] (some o) [.inr 1] [g0] := zv_meth (K := (z_KF4, z_KC4, z_KL4, z_KT4, [], [], [], none)) (FT := z_FT) (MT := z_MT) (n := 2) zxp119 (z_ks4 _ (fun _ h => List.mem_cons_of_mem _ h) _ _ _ _ (fun j r h _ => by cases h)) (fun _ _ => zs_KX_p) zyw_Matcher_besides (fun va F G h => by obtain ⟨rfl, _⟩ := h; rfl) rfl fun good va F G hB hret hvret hP => by
  obtain ⟨rfl, rfl, rfl⟩ := hP
  have l0 : ∀ (n : Nat) (x1 : Int) (x2 : Int) (x3 : Int) (q : Int), zf_Matcher_besides_l0 x1 g0 n x2 x3 = some q → (good 33 [.inr 1000, .inr 1000, .inl q, .inr 1000] [] [.inr 1] [g0]) → good 4 [.inr 0, .inl x1, .inl x2, .inl x3] [] [.inr 1] [g0] := by
    intro n
    induction n with
    | zero => intro x1 x2 x3 q h; exact absurd (show none = some q from h) (fun h => by cases h)
    | succ n ih =>
      intro x1 x2 x3 q h hK
      replace h : zf_Matcher_besides_l0_b x1 g0 (zf_Matcher_besides_l0 x1 g0 n) x2 x3 = some q := h
      unfold zf_Matcher_besides_l0_b at h
      refine zv_ild hB zd119_4 rfl rfl ?_
      refine zv_con hB zd119_5 rfl ?_
      refine zv_cge hB zd119_7 rfl (fun hc1 => ?_) (fun hc1 => ?_)
      · rw [if_neg (Int.not_lt.mpr hc1)] at h
        have hq := Option.some.inj h
        subst hq
        refine zv_wk hB (L' := [.inr 1000, .inr 1000, .inl x2, .inr 1000]) (F' := [.inr 1]) ⟨fun h => (Nat.lt_irrefl 1000 h).elim, fun h => (Nat.lt_irrefl 1000 h).elim, fun _ => rfl, fun h => (Nat.lt_irrefl 1000 h).elim, trivial⟩ ⟨fun _ => rfl, trivial⟩ ?_
        exact hK
      · rw [if_pos hc1] at h
        refine zv_ild hB zd119_10 rfl rfl ?_
        refine zv_ild hB zd119_11 rfl rfl ?_
        refine zv_shrw hB zd119_12 ?_
        refine zv_con hB zd119_13 rfl ?_
        refine zv_andw hB zd119_14 ?_
        refine zv_zeq hB zd119_15 rfl (fun hc2 => ?_) (fun hc2 => ?_)
        · rw [if_pos hc2] at h
          refine zv_iincw hB zd119_27 rfl rfl ?_
          refine zv_goto hB zd119_30 rfl ?_
          exact ih _ _ _ q h hK
        · rw [if_neg hc2] at h
          refine zv_ild hB zd119_18 rfl rfl ?_
          refine zv_ald hB zd119_19 rfl rfl rfl ?_
          refine zv_getq hB zd119_20 rfl rfl rfl ?_
          refine zv_ild hB zd119_23 rfl rfl ?_
          obtain ⟨c3, h⟩ := zi_if h
          refine zv_iald hB zd119_24 rfl rfl (zi_ix_ok c3).1 (zi_ix_ok c3).2 (fun _ _ => ?_)
          refine zv_orw hB zd119_25 ?_
          refine zv_ist hB zd119_26 rfl rfl rfl ?_
          refine zv_iincw hB zd119_27 rfl rfl ?_
          refine zv_goto hB zd119_30 rfl ?_
          exact ih _ _ _ q h hK
  unfold zf_Matcher_besides at h
  refine zv_con hB zd119_0 rfl ?_
  refine zv_ist hB zd119_1 rfl rfl rfl ?_
  refine zv_con hB zd119_2 rfl ?_
  refine zv_ist hB zd119_3 rfl rfl rfl ?_
  obtain ⟨q4, hq4, h⟩ := zi_bind h
  refine l0 _ _ _ _ q4 hq4 ?_
  show good 33 [.inr 1000, .inr 1000, .inl q4, .inr 1000] [] [.inr 1] [g0]
  refine zv_ild hB zd119_33 rfl rfl ?_
  have hw := Option.some.inj h
  subst hw
  exact hret _ _ _ _ _ zd119_34 (by trivial) ⟨rfl, rfl, rfl⟩
