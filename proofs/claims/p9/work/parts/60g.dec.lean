/-! Methods as functions, and that they do what these do. -/
/-! Law_addClause (III)V -/
-- names: 0 Law('arg', 0), 1 (0, 14)(0, 4, 3), 2 (0, 14)(0, 4, 4), 3 (0, 14)(0, 4, 5), 4 (0, 14)(0, 4, 6), 5 (0, 200)(0, 4, 0), 6 (0, 200)(0, 4, 1)
-- fields: f0 = 0.clauses_, f1 = 0.steps_, f2 = 0.tellsLines_, f3 = 0.linesByPlace_, f4 = 0.tellsSeen_, f5 = 0.seenByPlace_; arrays: g0 = 1, g1 = 2, g2 = 3, g3 = 4, g4 = 5, g5 = 6; out: [('f', 0), ('f', 2), ('f', 3), ('f', 4), ('f', 5), ('g', 0), ('g', 1), ('g', 2), ('g', 3)]
abbrev zy_Law_addClause : zNL := (7, [(0, 4)], [(0, 4, 7, 0), (0, 4, 2, 1), (0, 4, 9, 2), (0, 4, 11, 3), (0, 4, 8, 4), (0, 4, 10, 5)], [(0, 4, 3, 1), (0, 4, 4, 2), (0, 4, 5, 3), (0, 4, 6, 4), (0, 4, 0, 5), (0, 4, 1, 6)], [(1, 0, 14, 0), (2, 0, 14, 1), (3, 0, 14, 2), (4, 0, 14, 3), (5, 0, 200, 4), (6, 0, 200, 5)])
theorem zyw_Law_addClause : zv_wf zy_Law_addClause = true := by decide +kernel
theorem zye_Law_addClause : zv_ek2 zy_Law_addClause = true := by decide +kernel
def zf_Law_addClause (x1 : Int) (x2 : Int) (x3 : Int) (f0 : Int) (f1 : Int) (f2 : Int) (f3 : Int) (f4 : Int) (f5 : Int) (g0 : (Int → Int)) (g1 : (Int → Int)) (g2 : (Int → Int)) (g3 : (Int → Int)) (g4 : (Int → Int)) (g5 : (Int → Int)) : Option (Int × Int × Int × Int × Int × (Int → Int) × (Int → Int) × (Int → Int) × (Int → Int)) := if f0 < 14 then (cond (zi_ix f0 14) (if x1 = 118 then (if f5 = 0 then ((zf_Law_hasLetter x3 10 f1 g4 g5).bind fun r11 => (if r11 = 0 then ((zf_Law_hasLetter x3 11 f1 g4 g5).bind fun r13 => (if r13 = 0 then ((zf_Law_hasLetter x3 12 f1 g4 g5).bind fun r15 => (if r15 = 0 then (some ((zi_w (f0 + 1)), f2, f3, 1, 0, (zv_up g0 f0 x1), (zv_up g1 f0 x2), (zv_up g2 f0 x3), (zv_up g3 f0 f1))) else (some ((zi_w (f0 + 1)), f2, f3, 1, 1, (zv_up g0 f0 x1), (zv_up g1 f0 x2), (zv_up g2 f0 x3), (zv_up g3 f0 f1))))) else (some ((zi_w (f0 + 1)), f2, f3, 1, 1, (zv_up g0 f0 x1), (zv_up g1 f0 x2), (zv_up g2 f0 x3), (zv_up g3 f0 f1))))) else (some ((zi_w (f0 + 1)), f2, f3, 1, 1, (zv_up g0 f0 x1), (zv_up g1 f0 x2), (zv_up g2 f0 x3), (zv_up g3 f0 f1))))) else (some ((zi_w (f0 + 1)), f2, f3, 1, 1, (zv_up g0 f0 x1), (zv_up g1 f0 x2), (zv_up g2 f0 x3), (zv_up g3 f0 f1)))) else (if x1 = 106 then (if f3 = 0 then ((zf_Law_hasLetter x3 10 f1 g4 g5).bind fun r6 => (if r6 = 0 then ((zf_Law_hasLetter x3 11 f1 g4 g5).bind fun r8 => (if r8 = 0 then (some ((zi_w (f0 + 1)), 1, 0, f4, f5, (zv_up g0 f0 x1), (zv_up g1 f0 x2), (zv_up g2 f0 x3), (zv_up g3 f0 f1))) else (some ((zi_w (f0 + 1)), 1, 1, f4, f5, (zv_up g0 f0 x1), (zv_up g1 f0 x2), (zv_up g2 f0 x3), (zv_up g3 f0 f1))))) else (some ((zi_w (f0 + 1)), 1, 1, f4, f5, (zv_up g0 f0 x1), (zv_up g1 f0 x2), (zv_up g2 f0 x3), (zv_up g3 f0 f1))))) else (some ((zi_w (f0 + 1)), 1, 1, f4, f5, (zv_up g0 f0 x1), (zv_up g1 f0 x2), (zv_up g2 f0 x3), (zv_up g3 f0 f1)))) else (some ((zi_w (f0 + 1)), f2, f3, f4, f5, (zv_up g0 f0 x1), (zv_up g1 f0 x2), (zv_up g2 f0 x3), (zv_up g3 f0 f1))))) none) else (some (f0, f2, f3, f4, f5, g0, g1, g2, g3))
theorem zd74_0 : decode zxm74.2.1 0 = .ok (.aload_n 0, 1) := by decide +kernel
theorem zd74_1 : decode zxm74.2.1 1 = .ok (.getfield 32, 3) := by decide +kernel
theorem zd74_4 : decode zxm74.2.1 4 = .ok (.bipush 14, 2) := by decide +kernel
theorem zd74_6 : decode zxm74.2.1 6 = .ok (.if_icmp .lt 4, 3) := by decide +kernel
theorem zd74_9 : decode zxm74.2.1 9 = .ok (.return_, 1) := by decide +kernel
theorem zd74_10 : decode zxm74.2.1 10 = .ok (.aload_n 0, 1) := by decide +kernel
theorem zd74_11 : decode zxm74.2.1 11 = .ok (.getfield 20, 3) := by decide +kernel
theorem zd74_14 : decode zxm74.2.1 14 = .ok (.aload_n 0, 1) := by decide +kernel
theorem zd74_15 : decode zxm74.2.1 15 = .ok (.getfield 32, 3) := by decide +kernel
theorem zd74_18 : decode zxm74.2.1 18 = .ok (.iload_n 1, 1) := by decide +kernel
theorem zd74_19 : decode zxm74.2.1 19 = .ok (.iastore, 1) := by decide +kernel
theorem zd74_20 : decode zxm74.2.1 20 = .ok (.aload_n 0, 1) := by decide +kernel
theorem zd74_21 : decode zxm74.2.1 21 = .ok (.getfield 23, 3) := by decide +kernel
theorem zd74_24 : decode zxm74.2.1 24 = .ok (.aload_n 0, 1) := by decide +kernel
theorem zd74_25 : decode zxm74.2.1 25 = .ok (.getfield 32, 3) := by decide +kernel
theorem zd74_28 : decode zxm74.2.1 28 = .ok (.iload_n 2, 1) := by decide +kernel
theorem zd74_29 : decode zxm74.2.1 29 = .ok (.iastore, 1) := by decide +kernel
theorem zd74_30 : decode zxm74.2.1 30 = .ok (.aload_n 0, 1) := by decide +kernel
theorem zd74_31 : decode zxm74.2.1 31 = .ok (.getfield 26, 3) := by decide +kernel
theorem zd74_34 : decode zxm74.2.1 34 = .ok (.aload_n 0, 1) := by decide +kernel
theorem zd74_35 : decode zxm74.2.1 35 = .ok (.getfield 32, 3) := by decide +kernel
theorem zd74_38 : decode zxm74.2.1 38 = .ok (.iload_n 3, 1) := by decide +kernel
theorem zd74_39 : decode zxm74.2.1 39 = .ok (.iastore, 1) := by decide +kernel
theorem zd74_40 : decode zxm74.2.1 40 = .ok (.aload_n 0, 1) := by decide +kernel
theorem zd74_41 : decode zxm74.2.1 41 = .ok (.getfield 29, 3) := by decide +kernel
theorem zd74_44 : decode zxm74.2.1 44 = .ok (.aload_n 0, 1) := by decide +kernel
theorem zd74_45 : decode zxm74.2.1 45 = .ok (.getfield 32, 3) := by decide +kernel
theorem zd74_48 : decode zxm74.2.1 48 = .ok (.aload_n 0, 1) := by decide +kernel
theorem zd74_49 : decode zxm74.2.1 49 = .ok (.getfield 16, 3) := by decide +kernel
theorem zd74_52 : decode zxm74.2.1 52 = .ok (.iastore, 1) := by decide +kernel
theorem zd74_53 : decode zxm74.2.1 53 = .ok (.aload_n 0, 1) := by decide +kernel
theorem zd74_54 : decode zxm74.2.1 54 = .ok (.dup, 1) := by decide +kernel
theorem zd74_55 : decode zxm74.2.1 55 = .ok (.getfield 32, 3) := by decide +kernel
theorem zd74_58 : decode zxm74.2.1 58 = .ok (.iconst 1, 1) := by decide +kernel
theorem zd74_59 : decode zxm74.2.1 59 = .ok (.iadd, 1) := by decide +kernel
theorem zd74_60 : decode zxm74.2.1 60 = .ok (.putfield 32, 3) := by decide +kernel
theorem zd74_63 : decode zxm74.2.1 63 = .ok (.iload_n 1, 1) := by decide +kernel
theorem zd74_64 : decode zxm74.2.1 64 = .ok (.bipush 118, 2) := by decide +kernel
theorem zd74_66 : decode zxm74.2.1 66 = .ok (.if_icmp .ne 57, 3) := by decide +kernel
theorem zd74_69 : decode zxm74.2.1 69 = .ok (.aload_n 0, 1) := by decide +kernel
theorem zd74_70 : decode zxm74.2.1 70 = .ok (.iconst 1, 1) := by decide +kernel
theorem zd74_71 : decode zxm74.2.1 71 = .ok (.putfield 35, 3) := by decide +kernel
theorem zd74_74 : decode zxm74.2.1 74 = .ok (.aload_n 0, 1) := by decide +kernel
theorem zd74_75 : decode zxm74.2.1 75 = .ok (.aload_n 0, 1) := by decide +kernel
theorem zd74_76 : decode zxm74.2.1 76 = .ok (.getfield 42, 3) := by decide +kernel
theorem zd74_79 : decode zxm74.2.1 79 = .ok (.ifCond .ne 33, 3) := by decide +kernel
theorem zd74_82 : decode zxm74.2.1 82 = .ok (.aload_n 0, 1) := by decide +kernel
theorem zd74_83 : decode zxm74.2.1 83 = .ok (.iload_n 3, 1) := by decide +kernel
theorem zd74_84 : decode zxm74.2.1 84 = .ok (.bipush 10, 2) := by decide +kernel
theorem zd74_86 : decode zxm74.2.1 86 = .ok (.invokevirtual 65, 3) := by decide +kernel
theorem zd74_89 : decode zxm74.2.1 89 = .ok (.ifCond .ne 23, 3) := by decide +kernel
theorem zd74_92 : decode zxm74.2.1 92 = .ok (.aload_n 0, 1) := by decide +kernel
theorem zd74_93 : decode zxm74.2.1 93 = .ok (.iload_n 3, 1) := by decide +kernel
theorem zd74_94 : decode zxm74.2.1 94 = .ok (.bipush 11, 2) := by decide +kernel
theorem zd74_96 : decode zxm74.2.1 96 = .ok (.invokevirtual 65, 3) := by decide +kernel
theorem zd74_99 : decode zxm74.2.1 99 = .ok (.ifCond .ne 13, 3) := by decide +kernel
theorem zd74_102 : decode zxm74.2.1 102 = .ok (.aload_n 0, 1) := by decide +kernel
theorem zd74_103 : decode zxm74.2.1 103 = .ok (.iload_n 3, 1) := by decide +kernel
theorem zd74_104 : decode zxm74.2.1 104 = .ok (.bipush 12, 2) := by decide +kernel
theorem zd74_106 : decode zxm74.2.1 106 = .ok (.invokevirtual 65, 3) := by decide +kernel
theorem zd74_109 : decode zxm74.2.1 109 = .ok (.ifCond .eq 7, 3) := by decide +kernel
theorem zd74_112 : decode zxm74.2.1 112 = .ok (.iconst 1, 1) := by decide +kernel
theorem zd74_113 : decode zxm74.2.1 113 = .ok (.goto 4, 3) := by decide +kernel
theorem zd74_116 : decode zxm74.2.1 116 = .ok (.iconst 0, 1) := by decide +kernel
theorem zd74_117 : decode zxm74.2.1 117 = .ok (.putfield 42, 3) := by decide +kernel
theorem zd74_120 : decode zxm74.2.1 120 = .ok (.goto 50, 3) := by decide +kernel
theorem zd74_123 : decode zxm74.2.1 123 = .ok (.iload_n 1, 1) := by decide +kernel
theorem zd74_124 : decode zxm74.2.1 124 = .ok (.bipush 106, 2) := by decide +kernel
theorem zd74_126 : decode zxm74.2.1 126 = .ok (.if_icmp .ne 44, 3) := by decide +kernel
theorem zd74_129 : decode zxm74.2.1 129 = .ok (.aload_n 0, 1) := by decide +kernel
theorem zd74_130 : decode zxm74.2.1 130 = .ok (.iconst 1, 1) := by decide +kernel
theorem zd74_131 : decode zxm74.2.1 131 = .ok (.putfield 39, 3) := by decide +kernel
theorem zd74_134 : decode zxm74.2.1 134 = .ok (.aload_n 0, 1) := by decide +kernel
theorem zd74_135 : decode zxm74.2.1 135 = .ok (.aload_n 0, 1) := by decide +kernel
theorem zd74_136 : decode zxm74.2.1 136 = .ok (.getfield 45, 3) := by decide +kernel
theorem zd74_139 : decode zxm74.2.1 139 = .ok (.ifCond .ne 23, 3) := by decide +kernel
theorem zd74_142 : decode zxm74.2.1 142 = .ok (.aload_n 0, 1) := by decide +kernel
theorem zd74_143 : decode zxm74.2.1 143 = .ok (.iload_n 3, 1) := by decide +kernel
theorem zd74_144 : decode zxm74.2.1 144 = .ok (.bipush 10, 2) := by decide +kernel
theorem zd74_146 : decode zxm74.2.1 146 = .ok (.invokevirtual 65, 3) := by decide +kernel
theorem zd74_149 : decode zxm74.2.1 149 = .ok (.ifCond .ne 13, 3) := by decide +kernel
theorem zd74_152 : decode zxm74.2.1 152 = .ok (.aload_n 0, 1) := by decide +kernel
theorem zd74_153 : decode zxm74.2.1 153 = .ok (.iload_n 3, 1) := by decide +kernel
theorem zd74_154 : decode zxm74.2.1 154 = .ok (.bipush 11, 2) := by decide +kernel
theorem zd74_156 : decode zxm74.2.1 156 = .ok (.invokevirtual 65, 3) := by decide +kernel
theorem zd74_159 : decode zxm74.2.1 159 = .ok (.ifCond .eq 7, 3) := by decide +kernel
theorem zd74_162 : decode zxm74.2.1 162 = .ok (.iconst 1, 1) := by decide +kernel
theorem zd74_163 : decode zxm74.2.1 163 = .ok (.goto 4, 3) := by decide +kernel
theorem zd74_166 : decode zxm74.2.1 166 = .ok (.iconst 0, 1) := by decide +kernel
theorem zd74_167 : decode zxm74.2.1 167 = .ok (.putfield 45, 3) := by decide +kernel
theorem zd74_170 : decode zxm74.2.1 170 = .ok (.return_, 1) := by decide +kernel
theorem zt_Law_addClause {x1 : Int} {x2 : Int} {x3 : Int} {f0 : Int} {f1 : Int} {f2 : Int} {f3 : Int} {f4 : Int} {f5 : Int} {g0 : (Int → Int)} {g1 : (Int → Int)} {g2 : (Int → Int)} {g3 : (Int → Int)} {g4 : (Int → Int)} {g5 : (Int → Int)} {o : Int × Int × Int × Int × Int × (Int → Int) × (Int → Int) × (Int → Int) × (Int → Int)} (h : zf_Law_addClause x1 x2 x3 f0 f1 f2 f3 f4 f5 g0 g1 g2 g3 g4 g5 = some o) : zv_Fn z_TB z_cl z_KX zy_Law_addClause zxm74 (1, 60) [.inr 0, .inl x1, .inl x2, .inl x3] [.inl f0, .inl f1, .inl f2, .inl f3, .inl f4, .inl f5] [g0, g1, g2, g3, g4, g5] none [.inl o.1, .inl f1, .inl o.2.1, .inl o.2.2.1, .inl o.2.2.2.1, .inl o.2.2.2.2.1] [o.2.2.2.2.2.1, o.2.2.2.2.2.2.1, o.2.2.2.2.2.2.2.1, o.2.2.2.2.2.2.2.2, g4, g5] := zv_meth (K := (z_KF2, z_KC2, z_KL2, z_KT2, [], [], [], none)) (FT := z_FT) (MT := z_MT) (n := 4) zxp74 (z_ks2 _ (fun _ h => List.mem_cons_of_mem _ h) _ _ _ _ (fun j r h _ => by cases h)) (fun _ _ => zs_KX_p) zyw_Law_addClause (fun va F G h => by obtain ⟨rfl, _⟩ := h; rfl) (fun va F G h => by obtain ⟨rfl, _⟩ := h; rfl) rfl fun good va F G hB hret hvret hP => by
  obtain ⟨rfl, rfl, rfl⟩ := hP
  unfold zf_Law_addClause at h
  refine zv_ald hB zd74_0 rfl rfl rfl ?_
  refine zv_getf hB zd74_1 rfl rfl (fun _ _ => ?_)
  refine zv_con hB zd74_4 rfl ?_
  refine zv_clt hB zd74_6 rfl (fun hc1 => ?_) (fun hc1 => ?_)
  · rw [if_pos hc1] at h
    refine zv_ald hB zd74_10 rfl rfl rfl ?_
    refine zv_getr hB zd74_11 rfl ?_
    refine zv_ald hB zd74_14 rfl rfl rfl ?_
    refine zv_getf hB zd74_15 rfl rfl (fun _ _ => ?_)
    refine zv_ild hB zd74_18 rfl rfl ?_
    obtain ⟨c2, h⟩ := zi_if h
    refine zv_iast hB zd74_19 rfl rfl (zi_ix_ok c2).1 (zi_ix_ok c2).2 ?_
    refine zv_ald hB zd74_20 rfl rfl rfl ?_
    refine zv_getr hB zd74_21 rfl ?_
    refine zv_ald hB zd74_24 rfl rfl rfl ?_
    refine zv_getf hB zd74_25 rfl rfl (fun _ _ => ?_)
    refine zv_ild hB zd74_28 rfl rfl ?_
    refine zv_iast hB zd74_29 rfl rfl (zi_ix_ok c2).1 (zi_ix_ok c2).2 ?_
    refine zv_ald hB zd74_30 rfl rfl rfl ?_
    refine zv_getr hB zd74_31 rfl ?_
    refine zv_ald hB zd74_34 rfl rfl rfl ?_
    refine zv_getf hB zd74_35 rfl rfl (fun _ _ => ?_)
    refine zv_ild hB zd74_38 rfl rfl ?_
    refine zv_iast hB zd74_39 rfl rfl (zi_ix_ok c2).1 (zi_ix_ok c2).2 ?_
    refine zv_ald hB zd74_40 rfl rfl rfl ?_
    refine zv_getr hB zd74_41 rfl ?_
    refine zv_ald hB zd74_44 rfl rfl rfl ?_
    refine zv_getf hB zd74_45 rfl rfl (fun _ _ => ?_)
    refine zv_ald hB zd74_48 rfl rfl rfl ?_
    refine zv_getf hB zd74_49 rfl rfl (fun _ _ => ?_)
    refine zv_iast hB zd74_52 rfl rfl (zi_ix_ok c2).1 (zi_ix_ok c2).2 ?_
    refine zv_ald hB zd74_53 rfl rfl rfl ?_
    refine zv_dup hB zd74_54 rfl ?_
    refine zv_getf hB zd74_55 rfl rfl (fun _ _ => ?_)
    refine zv_con hB zd74_58 rfl ?_
    refine zv_addw hB zd74_59 ?_
    refine zv_putf hB zd74_60 rfl rfl (fun h => by cases h) rfl ?_
    refine zv_ild hB zd74_63 rfl rfl ?_
    refine zv_con hB zd74_64 rfl ?_
    refine zv_cne hB zd74_66 rfl (fun hc3 => ?_) (fun hc3 => ?_)
    · rw [if_neg hc3] at h
      refine zv_ild hB zd74_123 rfl rfl ?_
      refine zv_con hB zd74_124 rfl ?_
      refine zv_cne hB zd74_126 rfl (fun hc4 => ?_) (fun hc4 => ?_)
      · rw [if_neg hc4] at h
        have hw := Option.some.inj h
        subst hw
        exact hvret _ _ _ _ zd74_170 trivial ⟨rfl, rfl, rfl⟩
      · rw [if_pos hc4] at h
        refine zv_ald hB zd74_129 rfl rfl rfl ?_
        refine zv_con hB zd74_130 rfl ?_
        refine zv_putf hB zd74_131 rfl rfl (fun _ => by decide) rfl ?_
        refine zv_ald hB zd74_134 rfl rfl rfl ?_
        refine zv_ald hB zd74_135 rfl rfl rfl ?_
        refine zv_getf hB zd74_136 rfl rfl (fun _ _ => ?_)
        refine zv_zne hB zd74_139 rfl (fun hc5 => ?_) (fun hc5 => ?_)
        · rw [if_neg hc5] at h
          refine zv_con hB zd74_162 rfl ?_
          refine zv_goto hB zd74_163 rfl ?_
          refine zv_putf hB zd74_167 rfl rfl (fun _ => by decide) rfl ?_
          have hw := Option.some.inj h
          subst hw
          exact hvret _ _ _ _ zd74_170 trivial ⟨rfl, rfl, rfl⟩
        · rw [if_pos hc5] at h
          refine zv_ald hB zd74_142 rfl rfl rfl ?_
          refine zv_ild hB zd74_143 rfl rfl ?_
          refine zv_con hB zd74_144 rfl ?_
          obtain ⟨r6, hr6, h⟩ := zi_bind h
          refine zv_cv hB (zv_emq (va2 := [.inr 0, .inl x3, .inl 10]) (F := [.inl (zi_w (f0 + 1)), .inl f1, .inl 1, .inl f3, .inl f4, .inl f5]) (F' := [.inl (zi_w (f0 + 1)), .inl f1, .inl 1, .inl f3, .inl f4, .inl f5]) (G := [(zv_up g0 f0 x1), (zv_up g1 f0 x2), (zv_up g2 f0 x3), (zv_up g3 f0 f1), g4, g5]) (G' := [(zv_up g0 f0 x1), (zv_up g1 f0 x2), (zv_up g2 f0 x3), (zv_up g3 f0 f1), g4, g5]) (ρ := [0, 5, 6]) (φ := [1]) (ψ := [4, 5]) [none, some 0, none, none, none, none] [none, none, none, none, some 0, some 1] zyw_Law_hasLetter zyw_Law_addClause zye_Law_addClause (by decide +kernel) (zt_Law_hasLetter hr6) ⟨⟨_, rfl, fun _ => rfl⟩, trivial⟩ ⟨rfl, rfl, trivial⟩ rfl rfl rfl rfl rfl rfl rfl) zd74_146 zxt75 rfl (by decide) (by decide) rfl ?_
          refine zv_zne hB zd74_149 rfl (fun hc7 => ?_) (fun hc7 => ?_)
          · rw [if_neg hc7] at h
            refine zv_con hB zd74_162 rfl ?_
            refine zv_goto hB zd74_163 rfl ?_
            refine zv_putf hB zd74_167 rfl rfl (fun _ => by decide) rfl ?_
            have hw := Option.some.inj h
            subst hw
            exact hvret _ _ _ _ zd74_170 trivial ⟨rfl, rfl, rfl⟩
          · rw [if_pos hc7] at h
            refine zv_ald hB zd74_152 rfl rfl rfl ?_
            refine zv_ild hB zd74_153 rfl rfl ?_
            refine zv_con hB zd74_154 rfl ?_
            obtain ⟨r8, hr8, h⟩ := zi_bind h
            refine zv_cv hB (zv_emq (va2 := [.inr 0, .inl x3, .inl 11]) (F := [.inl (zi_w (f0 + 1)), .inl f1, .inl 1, .inl f3, .inl f4, .inl f5]) (F' := [.inl (zi_w (f0 + 1)), .inl f1, .inl 1, .inl f3, .inl f4, .inl f5]) (G := [(zv_up g0 f0 x1), (zv_up g1 f0 x2), (zv_up g2 f0 x3), (zv_up g3 f0 f1), g4, g5]) (G' := [(zv_up g0 f0 x1), (zv_up g1 f0 x2), (zv_up g2 f0 x3), (zv_up g3 f0 f1), g4, g5]) (ρ := [0, 5, 6]) (φ := [1]) (ψ := [4, 5]) [none, some 0, none, none, none, none] [none, none, none, none, some 0, some 1] zyw_Law_hasLetter zyw_Law_addClause zye_Law_addClause (by decide +kernel) (zt_Law_hasLetter hr8) ⟨⟨_, rfl, fun _ => rfl⟩, trivial⟩ ⟨rfl, rfl, trivial⟩ rfl rfl rfl rfl rfl rfl rfl) zd74_156 zxt75 rfl (by decide) (by decide) rfl ?_
            refine zv_zeq hB zd74_159 rfl (fun hc9 => ?_) (fun hc9 => ?_)
            · rw [if_pos hc9] at h
              refine zv_con hB zd74_166 rfl ?_
              refine zv_putf hB zd74_167 rfl rfl (fun _ => by decide) rfl ?_
              have hw := Option.some.inj h
              subst hw
              exact hvret _ _ _ _ zd74_170 trivial ⟨rfl, rfl, rfl⟩
            · rw [if_neg hc9] at h
              refine zv_con hB zd74_162 rfl ?_
              refine zv_goto hB zd74_163 rfl ?_
              refine zv_putf hB zd74_167 rfl rfl (fun _ => by decide) rfl ?_
              have hw := Option.some.inj h
              subst hw
              exact hvret _ _ _ _ zd74_170 trivial ⟨rfl, rfl, rfl⟩
    · rw [if_pos hc3] at h
      refine zv_ald hB zd74_69 rfl rfl rfl ?_
      refine zv_con hB zd74_70 rfl ?_
      refine zv_putf hB zd74_71 rfl rfl (fun _ => by decide) rfl ?_
      refine zv_ald hB zd74_74 rfl rfl rfl ?_
      refine zv_ald hB zd74_75 rfl rfl rfl ?_
      refine zv_getf hB zd74_76 rfl rfl (fun _ _ => ?_)
      refine zv_zne hB zd74_79 rfl (fun hc10 => ?_) (fun hc10 => ?_)
      · rw [if_neg hc10] at h
        refine zv_con hB zd74_112 rfl ?_
        refine zv_goto hB zd74_113 rfl ?_
        refine zv_putf hB zd74_117 rfl rfl (fun _ => by decide) rfl ?_
        refine zv_goto hB zd74_120 rfl ?_
        have hw := Option.some.inj h
        subst hw
        exact hvret _ _ _ _ zd74_170 trivial ⟨rfl, rfl, rfl⟩
      · rw [if_pos hc10] at h
        refine zv_ald hB zd74_82 rfl rfl rfl ?_
        refine zv_ild hB zd74_83 rfl rfl ?_
        refine zv_con hB zd74_84 rfl ?_
        obtain ⟨r11, hr11, h⟩ := zi_bind h
        refine zv_cv hB (zv_emq (va2 := [.inr 0, .inl x3, .inl 10]) (F := [.inl (zi_w (f0 + 1)), .inl f1, .inl f2, .inl f3, .inl 1, .inl f5]) (F' := [.inl (zi_w (f0 + 1)), .inl f1, .inl f2, .inl f3, .inl 1, .inl f5]) (G := [(zv_up g0 f0 x1), (zv_up g1 f0 x2), (zv_up g2 f0 x3), (zv_up g3 f0 f1), g4, g5]) (G' := [(zv_up g0 f0 x1), (zv_up g1 f0 x2), (zv_up g2 f0 x3), (zv_up g3 f0 f1), g4, g5]) (ρ := [0, 5, 6]) (φ := [1]) (ψ := [4, 5]) [none, some 0, none, none, none, none] [none, none, none, none, some 0, some 1] zyw_Law_hasLetter zyw_Law_addClause zye_Law_addClause (by decide +kernel) (zt_Law_hasLetter hr11) ⟨⟨_, rfl, fun _ => rfl⟩, trivial⟩ ⟨rfl, rfl, trivial⟩ rfl rfl rfl rfl rfl rfl rfl) zd74_86 zxt75 rfl (by decide) (by decide) rfl ?_
        refine zv_zne hB zd74_89 rfl (fun hc12 => ?_) (fun hc12 => ?_)
        · rw [if_neg hc12] at h
          refine zv_con hB zd74_112 rfl ?_
          refine zv_goto hB zd74_113 rfl ?_
          refine zv_putf hB zd74_117 rfl rfl (fun _ => by decide) rfl ?_
          refine zv_goto hB zd74_120 rfl ?_
          have hw := Option.some.inj h
          subst hw
          exact hvret _ _ _ _ zd74_170 trivial ⟨rfl, rfl, rfl⟩
        · rw [if_pos hc12] at h
          refine zv_ald hB zd74_92 rfl rfl rfl ?_
          refine zv_ild hB zd74_93 rfl rfl ?_
          refine zv_con hB zd74_94 rfl ?_
          obtain ⟨r13, hr13, h⟩ := zi_bind h
          refine zv_cv hB (zv_emq (va2 := [.inr 0, .inl x3, .inl 11]) (F := [.inl (zi_w (f0 + 1)), .inl f1, .inl f2, .inl f3, .inl 1, .inl f5]) (F' := [.inl (zi_w (f0 + 1)), .inl f1, .inl f2, .inl f3, .inl 1, .inl f5]) (G := [(zv_up g0 f0 x1), (zv_up g1 f0 x2), (zv_up g2 f0 x3), (zv_up g3 f0 f1), g4, g5]) (G' := [(zv_up g0 f0 x1), (zv_up g1 f0 x2), (zv_up g2 f0 x3), (zv_up g3 f0 f1), g4, g5]) (ρ := [0, 5, 6]) (φ := [1]) (ψ := [4, 5]) [none, some 0, none, none, none, none] [none, none, none, none, some 0, some 1] zyw_Law_hasLetter zyw_Law_addClause zye_Law_addClause (by decide +kernel) (zt_Law_hasLetter hr13) ⟨⟨_, rfl, fun _ => rfl⟩, trivial⟩ ⟨rfl, rfl, trivial⟩ rfl rfl rfl rfl rfl rfl rfl) zd74_96 zxt75 rfl (by decide) (by decide) rfl ?_
          refine zv_zne hB zd74_99 rfl (fun hc14 => ?_) (fun hc14 => ?_)
          · rw [if_neg hc14] at h
            refine zv_con hB zd74_112 rfl ?_
            refine zv_goto hB zd74_113 rfl ?_
            refine zv_putf hB zd74_117 rfl rfl (fun _ => by decide) rfl ?_
            refine zv_goto hB zd74_120 rfl ?_
            have hw := Option.some.inj h
            subst hw
            exact hvret _ _ _ _ zd74_170 trivial ⟨rfl, rfl, rfl⟩
          · rw [if_pos hc14] at h
            refine zv_ald hB zd74_102 rfl rfl rfl ?_
            refine zv_ild hB zd74_103 rfl rfl ?_
            refine zv_con hB zd74_104 rfl ?_
            obtain ⟨r15, hr15, h⟩ := zi_bind h
            refine zv_cv hB (zv_emq (va2 := [.inr 0, .inl x3, .inl 12]) (F := [.inl (zi_w (f0 + 1)), .inl f1, .inl f2, .inl f3, .inl 1, .inl f5]) (F' := [.inl (zi_w (f0 + 1)), .inl f1, .inl f2, .inl f3, .inl 1, .inl f5]) (G := [(zv_up g0 f0 x1), (zv_up g1 f0 x2), (zv_up g2 f0 x3), (zv_up g3 f0 f1), g4, g5]) (G' := [(zv_up g0 f0 x1), (zv_up g1 f0 x2), (zv_up g2 f0 x3), (zv_up g3 f0 f1), g4, g5]) (ρ := [0, 5, 6]) (φ := [1]) (ψ := [4, 5]) [none, some 0, none, none, none, none] [none, none, none, none, some 0, some 1] zyw_Law_hasLetter zyw_Law_addClause zye_Law_addClause (by decide +kernel) (zt_Law_hasLetter hr15) ⟨⟨_, rfl, fun _ => rfl⟩, trivial⟩ ⟨rfl, rfl, trivial⟩ rfl rfl rfl rfl rfl rfl rfl) zd74_106 zxt75 rfl (by decide) (by decide) rfl ?_
            refine zv_zeq hB zd74_109 rfl (fun hc16 => ?_) (fun hc16 => ?_)
            · rw [if_pos hc16] at h
              refine zv_con hB zd74_116 rfl ?_
              refine zv_putf hB zd74_117 rfl rfl (fun _ => by decide) rfl ?_
              refine zv_goto hB zd74_120 rfl ?_
              have hw := Option.some.inj h
              subst hw
              exact hvret _ _ _ _ zd74_170 trivial ⟨rfl, rfl, rfl⟩
            · rw [if_neg hc16] at h
              refine zv_con hB zd74_112 rfl ?_
              refine zv_goto hB zd74_113 rfl ?_
              refine zv_putf hB zd74_117 rfl rfl (fun _ => by decide) rfl ?_
              refine zv_goto hB zd74_120 rfl ?_
              have hw := Option.some.inj h
              subst hw
              exact hvret _ _ _ _ zd74_170 trivial ⟨rfl, rfl, rfl⟩
  · rw [if_neg (Int.not_lt.mpr hc1)] at h
    have hw := Option.some.inj h
    subst hw
    exact hvret _ _ _ _ zd74_9 trivial ⟨rfl, rfl, rfl⟩
