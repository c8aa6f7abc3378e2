/-! Methods as functions, and that they do what these do. -/
/-! LawReader_readClause ()V -/
-- names: 0 LawReader('arg', 0), 1 (0, 220)(0, 5, 0), 2 Law(0, 5, 4), 3 (0, 200)(2, 4, 0), 4 (0, 200)(2, 4, 1), 5 (0, 14)(2, 4, 3), 6 (0, 14)(2, 4, 4), 7 (0, 14)(2, 4, 5), 8 (0, 14)(2, 4, 6)
-- fields: f0 = 0.fault_, f1 = 0.at_, f2 = 0.length_, f3 = 0.law_, f4 = 2.clauses_, f5 = 2.steps_, f6 = 2.tellsLines_, f7 = 2.linesByPlace_, f8 = 2.tellsSeen_, f9 = 2.seenByPlace_; arrays: g0 = 1, g1 = 3, g2 = 4, g3 = 5, g4 = 6, g5 = 7, g6 = 8; out: [('f', 0), ('f', 1), ('f', 4), ('f', 5), ('f', 6), ('f', 7), ('f', 8), ('f', 9), ('g', 1), ('g', 2), ('g', 3), ('g', 4), ('g', 5), ('g', 6)]
abbrev zy_LawReader_readClause : zNL := (9, [(0, 5), (2, 4)], [(0, 5, 3, 0), (0, 5, 2, 1), (0, 5, 1, 2), (0, 5, 4, 3), (2, 4, 7, 4), (2, 4, 2, 5), (2, 4, 9, 6), (2, 4, 11, 7), (2, 4, 8, 8), (2, 4, 10, 9)], [(0, 5, 0, 1), (2, 4, 0, 3), (2, 4, 1, 4), (2, 4, 3, 5), (2, 4, 4, 6), (2, 4, 5, 7), (2, 4, 6, 8)], [(1, 0, 220, 0), (3, 0, 200, 1), (4, 0, 200, 2), (5, 0, 14, 3), (6, 0, 14, 4), (7, 0, 14, 5), (8, 0, 14, 6)])
theorem zyw_LawReader_readClause : zv_wf zy_LawReader_readClause = true := by decide +kernel
theorem zye_LawReader_readClause : zv_ek2 zy_LawReader_readClause = true := by decide +kernel
def zf_LawReader_readClause (f0 : Int) (f1 : Int) (f2 : Int) (f4 : Int) (f5 : Int) (f6 : Int) (f7 : Int) (f8 : Int) (f9 : Int) (g0 : (Int → Int)) (g1 : (Int → Int)) (g2 : (Int → Int)) (g3 : (Int → Int)) (g4 : (Int → Int)) (g5 : (Int → Int)) (g6 : (Int → Int)) : Option (Int × Int × Int × Int × Int × Int × Int × Int × (Int → Int) × (Int → Int) × (Int → Int) × (Int → Int) × (Int → Int) × (Int → Int)) := if f0 = 0 then ((zf_LawReader_peek f1 f2 g0).bind fun r2 => (if r2 = 119 then (if f4 = 14 then ((zf_LawReader_fail 4 f0 f1).bind fun r12 => (some (r12, f1, f4, f5, f6, f7, f8, f9, g1, g2, g3, g4, g5, g6))) else ((zf_LawReader_readSum 0 f0 (zi_w (f1 + 1)) f2 f5 g0 g1 g2).bind fun r7 => ((zf_LawReader_skip 40 r7.1 r7.2.1 f2 g0).bind fun r8 => ((zf_LawReader_readCondition 1 r8.1 r8.2 f2 r7.2.2.1 g0 r7.2.2.2.1 r7.2.2.2.2).bind fun r9 => ((zf_LawReader_skip 41 r9.1 r9.2.1 f2 g0).bind fun r10 => ((zf_Law_addClause r2 f5 r7.2.2.1 f4 r9.2.2.1 f6 f7 f8 f9 g3 g4 g5 g6 r9.2.2.2.1 r9.2.2.2.2).bind fun r11 => (some (r10.1, r10.2, r11.1, r9.2.2.1, r11.2.1, r11.2.2.1, r11.2.2.2.1, r11.2.2.2.2.1, r9.2.2.2.1, r9.2.2.2.2, r11.2.2.2.2.2.1, r11.2.2.2.2.2.2.1, r11.2.2.2.2.2.2.2.1, r11.2.2.2.2.2.2.2.2)))))))) else (if r2 = 103 then (if f4 = 14 then ((zf_LawReader_fail 4 f0 f1).bind fun r22 => (some (r22, f1, f4, f5, f6, f7, f8, f9, g1, g2, g3, g4, g5, g6))) else ((zf_LawReader_readSum 0 f0 (zi_w (f1 + 1)) f2 f5 g0 g1 g2).bind fun r17 => ((zf_LawReader_skip 40 r17.1 r17.2.1 f2 g0).bind fun r18 => ((zf_LawReader_readCondition 1 r18.1 r18.2 f2 r17.2.2.1 g0 r17.2.2.2.1 r17.2.2.2.2).bind fun r19 => ((zf_LawReader_skip 41 r19.1 r19.2.1 f2 g0).bind fun r20 => ((zf_Law_addClause r2 f5 r17.2.2.1 f4 r19.2.2.1 f6 f7 f8 f9 g3 g4 g5 g6 r19.2.2.2.1 r19.2.2.2.2).bind fun r21 => (some (r20.1, r20.2, r21.1, r19.2.2.1, r21.2.1, r21.2.2.1, r21.2.2.2.1, r21.2.2.2.2.1, r19.2.2.2.1, r19.2.2.2.2, r21.2.2.2.2.2.1, r21.2.2.2.2.2.2.1, r21.2.2.2.2.2.2.2.1, r21.2.2.2.2.2.2.2.2)))))))) else (if r2 = 113 then (if f4 = 14 then ((zf_LawReader_fail 4 f0 f1).bind fun r50 => (some (r50, f1, f4, f5, f6, f7, f8, f9, g1, g2, g3, g4, g5, g6))) else ((zf_LawReader_readSum 0 f0 (zi_w (f1 + 1)) f2 f5 g0 g1 g2).bind fun r45 => ((zf_LawReader_skip 40 r45.1 r45.2.1 f2 g0).bind fun r46 => ((zf_LawReader_readCondition 1 r46.1 r46.2 f2 r45.2.2.1 g0 r45.2.2.2.1 r45.2.2.2.2).bind fun r47 => ((zf_LawReader_skip 41 r47.1 r47.2.1 f2 g0).bind fun r48 => ((zf_Law_addClause r2 f5 r45.2.2.1 f4 r47.2.2.1 f6 f7 f8 f9 g3 g4 g5 g6 r47.2.2.2.1 r47.2.2.2.2).bind fun r49 => (some (r48.1, r48.2, r49.1, r47.2.2.1, r49.2.1, r49.2.2.1, r49.2.2.2.1, r49.2.2.2.2.1, r47.2.2.2.1, r47.2.2.2.2, r49.2.2.2.2.2.1, r49.2.2.2.2.2.2.1, r49.2.2.2.2.2.2.2.1, r49.2.2.2.2.2.2.2.2)))))))) else (if r2 = 118 then (if f4 = 14 then ((zf_LawReader_fail 4 f0 f1).bind fun r32 => (some (r32, f1, f4, f5, f6, f7, f8, f9, g1, g2, g3, g4, g5, g6))) else ((zf_LawReader_skip 40 f0 (zi_w (f1 + 1)) f2 g0).bind fun r28 => ((zf_LawReader_readCondition 1 r28.1 r28.2 f2 f5 g0 g1 g2).bind fun r29 => ((zf_LawReader_skip 41 r29.1 r29.2.1 f2 g0).bind fun r30 => ((zf_Law_addClause r2 f5 f5 f4 r29.2.2.1 f6 f7 f8 f9 g3 g4 g5 g6 r29.2.2.2.1 r29.2.2.2.2).bind fun r31 => (some (r30.1, r30.2, r31.1, r29.2.2.1, r31.2.1, r31.2.2.1, r31.2.2.2.1, r31.2.2.2.2.1, r29.2.2.2.1, r29.2.2.2.2, r31.2.2.2.2.2.1, r31.2.2.2.2.2.2.1, r31.2.2.2.2.2.2.2.1, r31.2.2.2.2.2.2.2.2))))))) else (if r2 = 106 then (if f4 = 14 then ((zf_LawReader_fail 4 f0 f1).bind fun r40 => (some (r40, f1, f4, f5, f6, f7, f8, f9, g1, g2, g3, g4, g5, g6))) else ((zf_LawReader_skip 40 f0 (zi_w (f1 + 1)) f2 g0).bind fun r36 => ((zf_LawReader_readCondition 1 r36.1 r36.2 f2 f5 g0 g1 g2).bind fun r37 => ((zf_LawReader_skip 41 r37.1 r37.2.1 f2 g0).bind fun r38 => ((zf_Law_addClause r2 f5 f5 f4 r37.2.2.1 f6 f7 f8 f9 g3 g4 g5 g6 r37.2.2.2.1 r37.2.2.2.2).bind fun r39 => (some (r38.1, r38.2, r39.1, r37.2.2.1, r39.2.1, r39.2.2.1, r39.2.2.2.1, r39.2.2.2.2.1, r37.2.2.2.1, r37.2.2.2.2, r39.2.2.2.2.2.1, r39.2.2.2.2.2.2.1, r39.2.2.2.2.2.2.2.1, r39.2.2.2.2.2.2.2.2))))))) else ((zf_LawReader_fail 1 f0 f1).bind fun r41 => (some (r41, f1, f4, f5, f6, f7, f8, f9, g1, g2, g3, g4, g5, g6))))))))) else (some (f0, f1, f4, f5, f6, f7, f8, f9, g1, g2, g3, g4, g5, g6))
theorem zd39_0 : decode zxm39.2.1 0 = .ok (.aload_n 0, 1) := by decide +kernel
theorem zd39_1 : decode zxm39.2.1 1 = .ok (.getfield 18, 3) := by decide +kernel
theorem zd39_4 : decode zxm39.2.1 4 = .ok (.ifCond .eq 4, 3) := by decide +kernel
theorem zd39_7 : decode zxm39.2.1 7 = .ok (.return_, 1) := by decide +kernel
theorem zd39_8 : decode zxm39.2.1 8 = .ok (.aload_n 0, 1) := by decide +kernel
theorem zd39_9 : decode zxm39.2.1 9 = .ok (.invokevirtual 53, 3) := by decide +kernel
theorem zd39_12 : decode zxm39.2.1 12 = .ok (.istore_n 1, 1) := by decide +kernel
theorem zd39_13 : decode zxm39.2.1 13 = .ok (.iload_n 1, 1) := by decide +kernel
theorem zd39_14 : decode zxm39.2.1 14 = .ok (.bipush 119, 2) := by decide +kernel
theorem zd39_16 : decode zxm39.2.1 16 = .ok (.if_icmp .eq 15, 3) := by decide +kernel
theorem zd39_19 : decode zxm39.2.1 19 = .ok (.iload_n 1, 1) := by decide +kernel
theorem zd39_20 : decode zxm39.2.1 20 = .ok (.bipush 103, 2) := by decide +kernel
theorem zd39_22 : decode zxm39.2.1 22 = .ok (.if_icmp .eq 9, 3) := by decide +kernel
theorem zd39_25 : decode zxm39.2.1 25 = .ok (.iload_n 1, 1) := by decide +kernel
theorem zd39_26 : decode zxm39.2.1 26 = .ok (.bipush 113, 2) := by decide +kernel
theorem zd39_28 : decode zxm39.2.1 28 = .ok (.if_icmp .ne 7, 3) := by decide +kernel
theorem zd39_31 : decode zxm39.2.1 31 = .ok (.iconst 1, 1) := by decide +kernel
theorem zd39_32 : decode zxm39.2.1 32 = .ok (.goto 4, 3) := by decide +kernel
theorem zd39_35 : decode zxm39.2.1 35 = .ok (.iconst 0, 1) := by decide +kernel
theorem zd39_36 : decode zxm39.2.1 36 = .ok (.istore_n 2, 1) := by decide +kernel
theorem zd39_37 : decode zxm39.2.1 37 = .ok (.iload_n 2, 1) := by decide +kernel
theorem zd39_38 : decode zxm39.2.1 38 = .ok (.ifCond .ne 21, 3) := by decide +kernel
theorem zd39_41 : decode zxm39.2.1 41 = .ok (.iload_n 1, 1) := by decide +kernel
theorem zd39_42 : decode zxm39.2.1 42 = .ok (.bipush 118, 2) := by decide +kernel
theorem zd39_44 : decode zxm39.2.1 44 = .ok (.if_icmp .eq 15, 3) := by decide +kernel
theorem zd39_47 : decode zxm39.2.1 47 = .ok (.iload_n 1, 1) := by decide +kernel
theorem zd39_48 : decode zxm39.2.1 48 = .ok (.bipush 106, 2) := by decide +kernel
theorem zd39_50 : decode zxm39.2.1 50 = .ok (.if_icmp .eq 9, 3) := by decide +kernel
theorem zd39_53 : decode zxm39.2.1 53 = .ok (.aload_n 0, 1) := by decide +kernel
theorem zd39_54 : decode zxm39.2.1 54 = .ok (.iconst 1, 1) := by decide +kernel
theorem zd39_55 : decode zxm39.2.1 55 = .ok (.invokevirtual 57, 3) := by decide +kernel
theorem zd39_58 : decode zxm39.2.1 58 = .ok (.return_, 1) := by decide +kernel
theorem zd39_59 : decode zxm39.2.1 59 = .ok (.aload_n 0, 1) := by decide +kernel
theorem zd39_60 : decode zxm39.2.1 60 = .ok (.getfield 25, 3) := by decide +kernel
theorem zd39_63 : decode zxm39.2.1 63 = .ok (.getfield 47, 3) := by decide +kernel
theorem zd39_66 : decode zxm39.2.1 66 = .ok (.bipush 14, 2) := by decide +kernel
theorem zd39_68 : decode zxm39.2.1 68 = .ok (.if_icmp .ne 9, 3) := by decide +kernel
theorem zd39_71 : decode zxm39.2.1 71 = .ok (.aload_n 0, 1) := by decide +kernel
theorem zd39_72 : decode zxm39.2.1 72 = .ok (.iconst 4, 1) := by decide +kernel
theorem zd39_73 : decode zxm39.2.1 73 = .ok (.invokevirtual 57, 3) := by decide +kernel
theorem zd39_76 : decode zxm39.2.1 76 = .ok (.return_, 1) := by decide +kernel
theorem zd39_77 : decode zxm39.2.1 77 = .ok (.aload_n 0, 1) := by decide +kernel
theorem zd39_78 : decode zxm39.2.1 78 = .ok (.dup, 1) := by decide +kernel
theorem zd39_79 : decode zxm39.2.1 79 = .ok (.getfield 15, 3) := by decide +kernel
theorem zd39_82 : decode zxm39.2.1 82 = .ok (.iconst 1, 1) := by decide +kernel
theorem zd39_83 : decode zxm39.2.1 83 = .ok (.iadd, 1) := by decide +kernel
theorem zd39_84 : decode zxm39.2.1 84 = .ok (.putfield 15, 3) := by decide +kernel
theorem zd39_87 : decode zxm39.2.1 87 = .ok (.aload_n 0, 1) := by decide +kernel
theorem zd39_88 : decode zxm39.2.1 88 = .ok (.getfield 25, 3) := by decide +kernel
theorem zd39_91 : decode zxm39.2.1 91 = .ok (.getfield 60, 3) := by decide +kernel
theorem zd39_94 : decode zxm39.2.1 94 = .ok (.istore_n 3, 1) := by decide +kernel
theorem zd39_95 : decode zxm39.2.1 95 = .ok (.iload_n 2, 1) := by decide +kernel
theorem zd39_96 : decode zxm39.2.1 96 = .ok (.ifCond .eq 8, 3) := by decide +kernel
theorem zd39_99 : decode zxm39.2.1 99 = .ok (.aload_n 0, 1) := by decide +kernel
theorem zd39_100 : decode zxm39.2.1 100 = .ok (.iconst 0, 1) := by decide +kernel
theorem zd39_101 : decode zxm39.2.1 101 = .ok (.invokevirtual 63, 3) := by decide +kernel
theorem zd39_104 : decode zxm39.2.1 104 = .ok (.aload_n 0, 1) := by decide +kernel
theorem zd39_105 : decode zxm39.2.1 105 = .ok (.getfield 25, 3) := by decide +kernel
theorem zd39_108 : decode zxm39.2.1 108 = .ok (.getfield 60, 3) := by decide +kernel
theorem zd39_111 : decode zxm39.2.1 111 = .ok (.istore 4, 2) := by decide +kernel
theorem zd39_113 : decode zxm39.2.1 113 = .ok (.aload_n 0, 1) := by decide +kernel
theorem zd39_114 : decode zxm39.2.1 114 = .ok (.bipush 40, 2) := by decide +kernel
theorem zd39_116 : decode zxm39.2.1 116 = .ok (.invokevirtual 43, 3) := by decide +kernel
theorem zd39_119 : decode zxm39.2.1 119 = .ok (.aload_n 0, 1) := by decide +kernel
theorem zd39_120 : decode zxm39.2.1 120 = .ok (.iconst 1, 1) := by decide +kernel
theorem zd39_121 : decode zxm39.2.1 121 = .ok (.invokevirtual 66, 3) := by decide +kernel
theorem zd39_124 : decode zxm39.2.1 124 = .ok (.aload_n 0, 1) := by decide +kernel
theorem zd39_125 : decode zxm39.2.1 125 = .ok (.bipush 41, 2) := by decide +kernel
theorem zd39_127 : decode zxm39.2.1 127 = .ok (.invokevirtual 43, 3) := by decide +kernel
theorem zd39_130 : decode zxm39.2.1 130 = .ok (.aload_n 0, 1) := by decide +kernel
theorem zd39_131 : decode zxm39.2.1 131 = .ok (.getfield 25, 3) := by decide +kernel
theorem zd39_134 : decode zxm39.2.1 134 = .ok (.iload_n 1, 1) := by decide +kernel
theorem zd39_135 : decode zxm39.2.1 135 = .ok (.iload_n 3, 1) := by decide +kernel
theorem zd39_136 : decode zxm39.2.1 136 = .ok (.iload 4, 2) := by decide +kernel
theorem zd39_138 : decode zxm39.2.1 138 = .ok (.invokevirtual 69, 3) := by decide +kernel
theorem zd39_141 : decode zxm39.2.1 141 = .ok (.return_, 1) := by decide +kernel
theorem zt_LawReader_readClause {f0 : Int} {f1 : Int} {f2 : Int} {f4 : Int} {f5 : Int} {f6 : Int} {f7 : Int} {f8 : Int} {f9 : Int} {g0 : (Int → Int)} {g1 : (Int → Int)} {g2 : (Int → Int)} {g3 : (Int → Int)} {g4 : (Int → Int)} {g5 : (Int → Int)} {g6 : (Int → Int)} {o : Int × Int × Int × Int × Int × Int × Int × Int × (Int → Int) × (Int → Int) × (Int → Int) × (Int → Int) × (Int → Int) × (Int → Int)} (h : zf_LawReader_readClause f0 f1 f2 f4 f5 f6 f7 f8 f9 g0 g1 g2 g3 g4 g5 g6 = some o) : zv_Fn z_TB z_cl z_KX zy_LawReader_readClause zxm39 (79, 4740) [.inr 0] [.inl f0, .inl f1, .inl f2, .inr 2, .inl f4, .inl f5, .inl f6, .inl f7, .inl f8, .inl f9] [g0, g1, g2, g3, g4, g5, g6] none [.inl o.1, .inl o.2.1, .inl f2, .inr 2, .inl o.2.2.1, .inl o.2.2.2.1, .inl o.2.2.2.2.1, .inl o.2.2.2.2.2.1, .inl o.2.2.2.2.2.2.1, .inl o.2.2.2.2.2.2.2.1] [g0, o.2.2.2.2.2.2.2.2.1, o.2.2.2.2.2.2.2.2.2.1, o.2.2.2.2.2.2.2.2.2.2.1, o.2.2.2.2.2.2.2.2.2.2.2.1, o.2.2.2.2.2.2.2.2.2.2.2.2.1, o.2.2.2.2.2.2.2.2.2.2.2.2.2] := zv_meth (K := (z_KF3, z_KC3, z_KL3, z_KT3, [], [], [], none)) (FT := z_FT) (MT := z_MT) (n := 1) zxp39 (z_ks3 _ (fun _ h => List.mem_cons_of_mem _ h) _ _ _ _ (fun j r h _ => by cases h)) (fun _ _ => zs_KX_p) zyw_LawReader_readClause (fun va F G h => by obtain ⟨rfl, _⟩ := h; rfl) (fun va F G h => by obtain ⟨rfl, _⟩ := h; rfl) rfl fun good va F G hB hret hvret hP => by
  obtain ⟨rfl, rfl, rfl⟩ := hP
  unfold zf_LawReader_readClause at h
  refine zv_ald hB zd39_0 rfl rfl rfl ?_
  refine zv_getf hB zd39_1 rfl rfl (fun _ _ => ?_)
  refine zv_zeq hB zd39_4 rfl (fun hc1 => ?_) (fun hc1 => ?_)
  · rw [if_pos hc1] at h
    refine zv_ald hB zd39_8 rfl rfl rfl ?_
    obtain ⟨r2, hr2, h⟩ := zi_bind h
    refine zv_cv hB (zv_emq (va2 := [.inr 0]) (F := [.inl f0, .inl f1, .inl f2, .inr 2, .inl f4, .inl f5, .inl f6, .inl f7, .inl f8, .inl f9]) (F' := [.inl f0, .inl f1, .inl f2, .inr 2, .inl f4, .inl f5, .inl f6, .inl f7, .inl f8, .inl f9]) (G := [g0, g1, g2, g3, g4, g5, g6]) (G' := [g0, g1, g2, g3, g4, g5, g6]) (ρ := [0, 1]) (φ := [1, 2]) (ψ := [0]) [none, some 0, some 1, none, none, none, none, none, none, none] [some 0, none, none, none, none, none, none] zyw_LawReader_peek zyw_LawReader_readClause zye_LawReader_readClause (by decide +kernel) (zt_LawReader_peek hr2) ⟨⟨_, rfl, fun _ => rfl⟩, ⟨_, rfl, fun _ => rfl⟩, trivial⟩ ⟨rfl, trivial⟩ rfl rfl rfl rfl rfl rfl rfl) zd39_9 zxt40 rfl (by decide) (by decide) rfl ?_
    refine zv_ist hB zd39_12 rfl rfl rfl ?_
    refine zv_ild hB zd39_13 rfl rfl ?_
    refine zv_con hB zd39_14 rfl ?_
    refine zv_ceq hB zd39_16 rfl (fun hc3 => ?_) (fun hc3 => ?_)
    · rw [if_pos hc3] at h
      refine zv_con hB zd39_31 rfl ?_
      refine zv_goto hB zd39_32 rfl ?_
      refine zv_ist hB zd39_36 rfl rfl rfl ?_
      refine zv_ild hB zd39_37 rfl rfl ?_
      refine zv_zne hB zd39_38 rfl (fun _ => ?_) (fun hc => absurd hc (by decide))
      refine zv_ald hB zd39_59 rfl rfl rfl ?_
      refine zv_getq hB zd39_60 rfl rfl rfl ?_
      refine zv_getf hB zd39_63 rfl rfl (fun _ _ => ?_)
      refine zv_con hB zd39_66 rfl ?_
      refine zv_cne hB zd39_68 rfl (fun hc5 => ?_) (fun hc5 => ?_)
      · rw [if_neg hc5] at h
        refine zv_ald hB zd39_77 rfl rfl rfl ?_
        refine zv_dup hB zd39_78 rfl ?_
        refine zv_getf hB zd39_79 rfl rfl (fun _ _ => ?_)
        refine zv_con hB zd39_82 rfl ?_
        refine zv_addw hB zd39_83 ?_
        refine zv_putf hB zd39_84 rfl rfl (fun h => by cases h) rfl ?_
        refine zv_ald hB zd39_87 rfl rfl rfl ?_
        refine zv_getq hB zd39_88 rfl rfl rfl ?_
        refine zv_getf hB zd39_91 rfl rfl (fun _ _ => ?_)
        refine zv_ist hB zd39_94 rfl rfl rfl ?_
        refine zv_ild hB zd39_95 rfl rfl ?_
        refine zv_zeq hB zd39_96 rfl (fun hc => absurd hc (by decide)) (fun _ => ?_)
        refine zv_ald hB zd39_99 rfl rfl rfl ?_
        refine zv_con hB zd39_100 rfl ?_
        obtain ⟨r7, hr7, h⟩ := zi_bind h
        refine zv_cv hB (zv_emq (va2 := [.inr 0, .inl 0]) (F := [.inl f0, .inl (zi_w (f1 + 1)), .inl f2, .inr 2, .inl f4, .inl f5, .inl f6, .inl f7, .inl f8, .inl f9]) (F' := [.inl r7.1, .inl r7.2.1, .inl f2, .inr 2, .inl f4, .inl r7.2.2.1, .inl f6, .inl f7, .inl f8, .inl f9]) (G := [g0, g1, g2, g3, g4, g5, g6]) (G' := [g0, r7.2.2.2.1, r7.2.2.2.2, g3, g4, g5, g6]) (ρ := [0, 1, 2, 3, 4]) (φ := [0, 1, 2, 3, 5]) (ψ := [0, 1, 2]) [some 0, some 1, some 2, some 3, none, some 4, none, none, none, none] [some 0, some 1, some 2, none, none, none, none] zyw_LawReader_readSum zyw_LawReader_readClause zye_LawReader_readClause (by decide +kernel) (zt_LawReader_readSum hr7) ⟨⟨_, rfl, fun _ => rfl⟩, ⟨_, rfl, fun _ => rfl⟩, ⟨_, rfl, fun _ => rfl⟩, ⟨_, rfl, fun _ => rfl⟩, ⟨_, rfl, fun _ => rfl⟩, trivial⟩ ⟨rfl, rfl, rfl, trivial⟩ rfl rfl rfl rfl rfl rfl rfl) zd39_101 zxt43 rfl (by decide) (by decide) rfl ?_
        refine zv_ald hB zd39_104 rfl rfl rfl ?_
        refine zv_getq hB zd39_105 rfl rfl rfl ?_
        refine zv_getf hB zd39_108 rfl rfl (fun _ _ => ?_)
        refine zv_ist hB zd39_111 rfl rfl rfl ?_
        refine zv_ald hB zd39_113 rfl rfl rfl ?_
        refine zv_con hB zd39_114 rfl ?_
        obtain ⟨r8, hr8, h⟩ := zi_bind h
        refine zv_cv hB (zv_emq (va2 := [.inr 0, .inl 40]) (F := [.inl r7.1, .inl r7.2.1, .inl f2, .inr 2, .inl f4, .inl r7.2.2.1, .inl f6, .inl f7, .inl f8, .inl f9]) (F' := [.inl r8.1, .inl r8.2, .inl f2, .inr 2, .inl f4, .inl r7.2.2.1, .inl f6, .inl f7, .inl f8, .inl f9]) (G := [g0, r7.2.2.2.1, r7.2.2.2.2, g3, g4, g5, g6]) (G' := [g0, r7.2.2.2.1, r7.2.2.2.2, g3, g4, g5, g6]) (ρ := [0, 1]) (φ := [0, 1, 2]) (ψ := [0]) [some 0, some 1, some 2, none, none, none, none, none, none, none] [some 0, none, none, none, none, none, none] zyw_LawReader_skip zyw_LawReader_readClause zye_LawReader_readClause (by decide +kernel) (zt_LawReader_skip hr8) ⟨⟨_, rfl, fun _ => rfl⟩, ⟨_, rfl, fun _ => rfl⟩, ⟨_, rfl, fun _ => rfl⟩, trivial⟩ ⟨rfl, trivial⟩ rfl rfl rfl rfl rfl rfl rfl) zd39_116 zxt46 rfl (by decide) (by decide) rfl ?_
        refine zv_ald hB zd39_119 rfl rfl rfl ?_
        refine zv_con hB zd39_120 rfl ?_
        obtain ⟨r9, hr9, h⟩ := zi_bind h
        refine zv_cv hB (zv_emq (va2 := [.inr 0, .inl 1]) (F := [.inl r8.1, .inl r8.2, .inl f2, .inr 2, .inl f4, .inl r7.2.2.1, .inl f6, .inl f7, .inl f8, .inl f9]) (F' := [.inl r9.1, .inl r9.2.1, .inl f2, .inr 2, .inl f4, .inl r9.2.2.1, .inl f6, .inl f7, .inl f8, .inl f9]) (G := [g0, r7.2.2.2.1, r7.2.2.2.2, g3, g4, g5, g6]) (G' := [g0, r9.2.2.2.1, r9.2.2.2.2, g3, g4, g5, g6]) (ρ := [0, 1, 2, 3, 4]) (φ := [0, 1, 2, 3, 5]) (ψ := [0, 1, 2]) [some 0, some 1, some 2, some 3, none, some 4, none, none, none, none] [some 0, some 1, some 2, none, none, none, none] zyw_LawReader_readCondition zyw_LawReader_readClause zye_LawReader_readClause (by decide +kernel) (zt_LawReader_readCondition hr9) ⟨⟨_, rfl, fun _ => rfl⟩, ⟨_, rfl, fun _ => rfl⟩, ⟨_, rfl, fun _ => rfl⟩, ⟨_, rfl, fun _ => rfl⟩, ⟨_, rfl, fun _ => rfl⟩, trivial⟩ ⟨rfl, rfl, rfl, trivial⟩ rfl rfl rfl rfl rfl rfl rfl) zd39_121 zxt69 rfl (by decide) (by decide) rfl ?_
        refine zv_ald hB zd39_124 rfl rfl rfl ?_
        refine zv_con hB zd39_125 rfl ?_
        obtain ⟨r10, hr10, h⟩ := zi_bind h
        refine zv_cv hB (zv_emq (va2 := [.inr 0, .inl 41]) (F := [.inl r9.1, .inl r9.2.1, .inl f2, .inr 2, .inl f4, .inl r9.2.2.1, .inl f6, .inl f7, .inl f8, .inl f9]) (F' := [.inl r10.1, .inl r10.2, .inl f2, .inr 2, .inl f4, .inl r9.2.2.1, .inl f6, .inl f7, .inl f8, .inl f9]) (G := [g0, r9.2.2.2.1, r9.2.2.2.2, g3, g4, g5, g6]) (G' := [g0, r9.2.2.2.1, r9.2.2.2.2, g3, g4, g5, g6]) (ρ := [0, 1]) (φ := [0, 1, 2]) (ψ := [0]) [some 0, some 1, some 2, none, none, none, none, none, none, none] [some 0, none, none, none, none, none, none] zyw_LawReader_skip zyw_LawReader_readClause zye_LawReader_readClause (by decide +kernel) (zt_LawReader_skip hr10) ⟨⟨_, rfl, fun _ => rfl⟩, ⟨_, rfl, fun _ => rfl⟩, ⟨_, rfl, fun _ => rfl⟩, trivial⟩ ⟨rfl, trivial⟩ rfl rfl rfl rfl rfl rfl rfl) zd39_127 zxt46 rfl (by decide) (by decide) rfl ?_
        refine zv_ald hB zd39_130 rfl rfl rfl ?_
        refine zv_getq hB zd39_131 rfl rfl rfl ?_
        refine zv_ild hB zd39_134 rfl rfl ?_
        refine zv_ild hB zd39_135 rfl rfl ?_
        refine zv_ild hB zd39_136 rfl rfl ?_
        obtain ⟨r11, hr11, h⟩ := zi_bind h
        refine zv_cv hB (zv_emq (va2 := [.inr 2, .inl r2, .inl f5, .inl r7.2.2.1]) (F := [.inl r10.1, .inl r10.2, .inl f2, .inr 2, .inl f4, .inl r9.2.2.1, .inl f6, .inl f7, .inl f8, .inl f9]) (F' := [.inl r10.1, .inl r10.2, .inl f2, .inr 2, .inl r11.1, .inl r9.2.2.1, .inl r11.2.1, .inl r11.2.2.1, .inl r11.2.2.2.1, .inl r11.2.2.2.2.1]) (G := [g0, r9.2.2.2.1, r9.2.2.2.2, g3, g4, g5, g6]) (G' := [g0, r9.2.2.2.1, r9.2.2.2.2, r11.2.2.2.2.2.1, r11.2.2.2.2.2.2.1, r11.2.2.2.2.2.2.2.1, r11.2.2.2.2.2.2.2.2]) (ρ := [2, 5, 6, 7, 8, 3, 4]) (φ := [4, 5, 6, 7, 8, 9]) (ψ := [3, 4, 5, 6, 1, 2]) [none, none, none, none, some 0, some 1, some 2, some 3, some 4, some 5] [none, some 4, some 5, some 0, some 1, some 2, some 3] zyw_Law_addClause zyw_LawReader_readClause zye_LawReader_readClause (by decide +kernel) (zt_Law_addClause hr11) ⟨⟨_, rfl, fun _ => rfl⟩, ⟨_, rfl, fun _ => rfl⟩, ⟨_, rfl, fun _ => rfl⟩, ⟨_, rfl, fun _ => rfl⟩, ⟨_, rfl, fun _ => rfl⟩, ⟨_, rfl, fun _ => rfl⟩, trivial⟩ ⟨rfl, rfl, rfl, rfl, rfl, rfl, trivial⟩ rfl rfl rfl rfl rfl rfl rfl) zd39_138 zxt74 rfl (by decide) (by decide) rfl ?_
        have hw := Option.some.inj h
        subst hw
        exact hvret _ _ _ _ zd39_141 trivial ⟨rfl, rfl, rfl⟩
      · rw [if_pos hc5] at h
        refine zv_ald hB zd39_71 rfl rfl rfl ?_
        refine zv_con hB zd39_72 rfl ?_
        obtain ⟨r12, hr12, h⟩ := zi_bind h
        refine zv_cv hB (zv_emq (va2 := [.inr 0, .inl 4]) (F := [.inl f0, .inl f1, .inl f2, .inr 2, .inl f4, .inl f5, .inl f6, .inl f7, .inl f8, .inl f9]) (F' := [.inl r12, .inl f1, .inl f2, .inr 2, .inl f4, .inl f5, .inl f6, .inl f7, .inl f8, .inl f9]) (G := [g0, g1, g2, g3, g4, g5, g6]) (G' := [g0, g1, g2, g3, g4, g5, g6]) (ρ := [0]) (φ := [0, 1]) (ψ := []) [some 0, some 1, none, none, none, none, none, none, none, none] [none, none, none, none, none, none, none] zyw_LawReader_fail zyw_LawReader_readClause zye_LawReader_readClause (by decide +kernel) (zt_LawReader_fail hr12) ⟨⟨_, rfl, fun _ => rfl⟩, ⟨_, rfl, fun _ => rfl⟩, trivial⟩ trivial rfl rfl rfl rfl rfl rfl rfl) zd39_73 zxt41 rfl (by decide) (by decide) rfl ?_
        have hw := Option.some.inj h
        subst hw
        exact hvret _ _ _ _ zd39_76 trivial ⟨rfl, rfl, rfl⟩
    · rw [if_neg hc3] at h
      refine zv_ild hB zd39_19 rfl rfl ?_
      refine zv_con hB zd39_20 rfl ?_
      refine zv_ceq hB zd39_22 rfl (fun hc13 => ?_) (fun hc13 => ?_)
      · rw [if_pos hc13] at h
        refine zv_con hB zd39_31 rfl ?_
        refine zv_goto hB zd39_32 rfl ?_
        refine zv_ist hB zd39_36 rfl rfl rfl ?_
        refine zv_ild hB zd39_37 rfl rfl ?_
        refine zv_zne hB zd39_38 rfl (fun _ => ?_) (fun hc => absurd hc (by decide))
        refine zv_ald hB zd39_59 rfl rfl rfl ?_
        refine zv_getq hB zd39_60 rfl rfl rfl ?_
        refine zv_getf hB zd39_63 rfl rfl (fun _ _ => ?_)
        refine zv_con hB zd39_66 rfl ?_
        refine zv_cne hB zd39_68 rfl (fun hc15 => ?_) (fun hc15 => ?_)
        · rw [if_neg hc15] at h
          refine zv_ald hB zd39_77 rfl rfl rfl ?_
          refine zv_dup hB zd39_78 rfl ?_
          refine zv_getf hB zd39_79 rfl rfl (fun _ _ => ?_)
          refine zv_con hB zd39_82 rfl ?_
          refine zv_addw hB zd39_83 ?_
          refine zv_putf hB zd39_84 rfl rfl (fun h => by cases h) rfl ?_
          refine zv_ald hB zd39_87 rfl rfl rfl ?_
          refine zv_getq hB zd39_88 rfl rfl rfl ?_
          refine zv_getf hB zd39_91 rfl rfl (fun _ _ => ?_)
          refine zv_ist hB zd39_94 rfl rfl rfl ?_
          refine zv_ild hB zd39_95 rfl rfl ?_
          refine zv_zeq hB zd39_96 rfl (fun hc => absurd hc (by decide)) (fun _ => ?_)
          refine zv_ald hB zd39_99 rfl rfl rfl ?_
          refine zv_con hB zd39_100 rfl ?_
          obtain ⟨r17, hr17, h⟩ := zi_bind h
          refine zv_cv hB (zv_emq (va2 := [.inr 0, .inl 0]) (F := [.inl f0, .inl (zi_w (f1 + 1)), .inl f2, .inr 2, .inl f4, .inl f5, .inl f6, .inl f7, .inl f8, .inl f9]) (F' := [.inl r17.1, .inl r17.2.1, .inl f2, .inr 2, .inl f4, .inl r17.2.2.1, .inl f6, .inl f7, .inl f8, .inl f9]) (G := [g0, g1, g2, g3, g4, g5, g6]) (G' := [g0, r17.2.2.2.1, r17.2.2.2.2, g3, g4, g5, g6]) (ρ := [0, 1, 2, 3, 4]) (φ := [0, 1, 2, 3, 5]) (ψ := [0, 1, 2]) [some 0, some 1, some 2, some 3, none, some 4, none, none, none, none] [some 0, some 1, some 2, none, none, none, none] zyw_LawReader_readSum zyw_LawReader_readClause zye_LawReader_readClause (by decide +kernel) (zt_LawReader_readSum hr17) ⟨⟨_, rfl, fun _ => rfl⟩, ⟨_, rfl, fun _ => rfl⟩, ⟨_, rfl, fun _ => rfl⟩, ⟨_, rfl, fun _ => rfl⟩, ⟨_, rfl, fun _ => rfl⟩, trivial⟩ ⟨rfl, rfl, rfl, trivial⟩ rfl rfl rfl rfl rfl rfl rfl) zd39_101 zxt43 rfl (by decide) (by decide) rfl ?_
          refine zv_ald hB zd39_104 rfl rfl rfl ?_
          refine zv_getq hB zd39_105 rfl rfl rfl ?_
          refine zv_getf hB zd39_108 rfl rfl (fun _ _ => ?_)
          refine zv_ist hB zd39_111 rfl rfl rfl ?_
          refine zv_ald hB zd39_113 rfl rfl rfl ?_
          refine zv_con hB zd39_114 rfl ?_
          obtain ⟨r18, hr18, h⟩ := zi_bind h
          refine zv_cv hB (zv_emq (va2 := [.inr 0, .inl 40]) (F := [.inl r17.1, .inl r17.2.1, .inl f2, .inr 2, .inl f4, .inl r17.2.2.1, .inl f6, .inl f7, .inl f8, .inl f9]) (F' := [.inl r18.1, .inl r18.2, .inl f2, .inr 2, .inl f4, .inl r17.2.2.1, .inl f6, .inl f7, .inl f8, .inl f9]) (G := [g0, r17.2.2.2.1, r17.2.2.2.2, g3, g4, g5, g6]) (G' := [g0, r17.2.2.2.1, r17.2.2.2.2, g3, g4, g5, g6]) (ρ := [0, 1]) (φ := [0, 1, 2]) (ψ := [0]) [some 0, some 1, some 2, none, none, none, none, none, none, none] [some 0, none, none, none, none, none, none] zyw_LawReader_skip zyw_LawReader_readClause zye_LawReader_readClause (by decide +kernel) (zt_LawReader_skip hr18) ⟨⟨_, rfl, fun _ => rfl⟩, ⟨_, rfl, fun _ => rfl⟩, ⟨_, rfl, fun _ => rfl⟩, trivial⟩ ⟨rfl, trivial⟩ rfl rfl rfl rfl rfl rfl rfl) zd39_116 zxt46 rfl (by decide) (by decide) rfl ?_
          refine zv_ald hB zd39_119 rfl rfl rfl ?_
          refine zv_con hB zd39_120 rfl ?_
          obtain ⟨r19, hr19, h⟩ := zi_bind h
          refine zv_cv hB (zv_emq (va2 := [.inr 0, .inl 1]) (F := [.inl r18.1, .inl r18.2, .inl f2, .inr 2, .inl f4, .inl r17.2.2.1, .inl f6, .inl f7, .inl f8, .inl f9]) (F' := [.inl r19.1, .inl r19.2.1, .inl f2, .inr 2, .inl f4, .inl r19.2.2.1, .inl f6, .inl f7, .inl f8, .inl f9]) (G := [g0, r17.2.2.2.1, r17.2.2.2.2, g3, g4, g5, g6]) (G' := [g0, r19.2.2.2.1, r19.2.2.2.2, g3, g4, g5, g6]) (ρ := [0, 1, 2, 3, 4]) (φ := [0, 1, 2, 3, 5]) (ψ := [0, 1, 2]) [some 0, some 1, some 2, some 3, none, some 4, none, none, none, none] [some 0, some 1, some 2, none, none, none, none] zyw_LawReader_readCondition zyw_LawReader_readClause zye_LawReader_readClause (by decide +kernel) (zt_LawReader_readCondition hr19) ⟨⟨_, rfl, fun _ => rfl⟩, ⟨_, rfl, fun _ => rfl⟩, ⟨_, rfl, fun _ => rfl⟩, ⟨_, rfl, fun _ => rfl⟩, ⟨_, rfl, fun _ => rfl⟩, trivial⟩ ⟨rfl, rfl, rfl, trivial⟩ rfl rfl rfl rfl rfl rfl rfl) zd39_121 zxt69 rfl (by decide) (by decide) rfl ?_
          refine zv_ald hB zd39_124 rfl rfl rfl ?_
          refine zv_con hB zd39_125 rfl ?_
          obtain ⟨r20, hr20, h⟩ := zi_bind h
          refine zv_cv hB (zv_emq (va2 := [.inr 0, .inl 41]) (F := [.inl r19.1, .inl r19.2.1, .inl f2, .inr 2, .inl f4, .inl r19.2.2.1, .inl f6, .inl f7, .inl f8, .inl f9]) (F' := [.inl r20.1, .inl r20.2, .inl f2, .inr 2, .inl f4, .inl r19.2.2.1, .inl f6, .inl f7, .inl f8, .inl f9]) (G := [g0, r19.2.2.2.1, r19.2.2.2.2, g3, g4, g5, g6]) (G' := [g0, r19.2.2.2.1, r19.2.2.2.2, g3, g4, g5, g6]) (ρ := [0, 1]) (φ := [0, 1, 2]) (ψ := [0]) [some 0, some 1, some 2, none, none, none, none, none, none, none] [some 0, none, none, none, none, none, none] zyw_LawReader_skip zyw_LawReader_readClause zye_LawReader_readClause (by decide +kernel) (zt_LawReader_skip hr20) ⟨⟨_, rfl, fun _ => rfl⟩, ⟨_, rfl, fun _ => rfl⟩, ⟨_, rfl, fun _ => rfl⟩, trivial⟩ ⟨rfl, trivial⟩ rfl rfl rfl rfl rfl rfl rfl) zd39_127 zxt46 rfl (by decide) (by decide) rfl ?_
          refine zv_ald hB zd39_130 rfl rfl rfl ?_
          refine zv_getq hB zd39_131 rfl rfl rfl ?_
          refine zv_ild hB zd39_134 rfl rfl ?_
          refine zv_ild hB zd39_135 rfl rfl ?_
          refine zv_ild hB zd39_136 rfl rfl ?_
          obtain ⟨r21, hr21, h⟩ := zi_bind h
          refine zv_cv hB (zv_emq (va2 := [.inr 2, .inl r2, .inl f5, .inl r17.2.2.1]) (F := [.inl r20.1, .inl r20.2, .inl f2, .inr 2, .inl f4, .inl r19.2.2.1, .inl f6, .inl f7, .inl f8, .inl f9]) (F' := [.inl r20.1, .inl r20.2, .inl f2, .inr 2, .inl r21.1, .inl r19.2.2.1, .inl r21.2.1, .inl r21.2.2.1, .inl r21.2.2.2.1, .inl r21.2.2.2.2.1]) (G := [g0, r19.2.2.2.1, r19.2.2.2.2, g3, g4, g5, g6]) (G' := [g0, r19.2.2.2.1, r19.2.2.2.2, r21.2.2.2.2.2.1, r21.2.2.2.2.2.2.1, r21.2.2.2.2.2.2.2.1, r21.2.2.2.2.2.2.2.2]) (ρ := [2, 5, 6, 7, 8, 3, 4]) (φ := [4, 5, 6, 7, 8, 9]) (ψ := [3, 4, 5, 6, 1, 2]) [none, none, none, none, some 0, some 1, some 2, some 3, some 4, some 5] [none, some 4, some 5, some 0, some 1, some 2, some 3] zyw_Law_addClause zyw_LawReader_readClause zye_LawReader_readClause (by decide +kernel) (zt_Law_addClause hr21) ⟨⟨_, rfl, fun _ => rfl⟩, ⟨_, rfl, fun _ => rfl⟩, ⟨_, rfl, fun _ => rfl⟩, ⟨_, rfl, fun _ => rfl⟩, ⟨_, rfl, fun _ => rfl⟩, ⟨_, rfl, fun _ => rfl⟩, trivial⟩ ⟨rfl, rfl, rfl, rfl, rfl, rfl, trivial⟩ rfl rfl rfl rfl rfl rfl rfl) zd39_138 zxt74 rfl (by decide) (by decide) rfl ?_
          have hw := Option.some.inj h
          subst hw
          exact hvret _ _ _ _ zd39_141 trivial ⟨rfl, rfl, rfl⟩
        · rw [if_pos hc15] at h
          refine zv_ald hB zd39_71 rfl rfl rfl ?_
          refine zv_con hB zd39_72 rfl ?_
          obtain ⟨r22, hr22, h⟩ := zi_bind h
          refine zv_cv hB (zv_emq (va2 := [.inr 0, .inl 4]) (F := [.inl f0, .inl f1, .inl f2, .inr 2, .inl f4, .inl f5, .inl f6, .inl f7, .inl f8, .inl f9]) (F' := [.inl r22, .inl f1, .inl f2, .inr 2, .inl f4, .inl f5, .inl f6, .inl f7, .inl f8, .inl f9]) (G := [g0, g1, g2, g3, g4, g5, g6]) (G' := [g0, g1, g2, g3, g4, g5, g6]) (ρ := [0]) (φ := [0, 1]) (ψ := []) [some 0, some 1, none, none, none, none, none, none, none, none] [none, none, none, none, none, none, none] zyw_LawReader_fail zyw_LawReader_readClause zye_LawReader_readClause (by decide +kernel) (zt_LawReader_fail hr22) ⟨⟨_, rfl, fun _ => rfl⟩, ⟨_, rfl, fun _ => rfl⟩, trivial⟩ trivial rfl rfl rfl rfl rfl rfl rfl) zd39_73 zxt41 rfl (by decide) (by decide) rfl ?_
          have hw := Option.some.inj h
          subst hw
          exact hvret _ _ _ _ zd39_76 trivial ⟨rfl, rfl, rfl⟩
      · rw [if_neg hc13] at h
        refine zv_ild hB zd39_25 rfl rfl ?_
        refine zv_con hB zd39_26 rfl ?_
        refine zv_cne hB zd39_28 rfl (fun hc23 => ?_) (fun hc23 => ?_)
        · rw [if_neg hc23] at h
          refine zv_con hB zd39_35 rfl ?_
          refine zv_ist hB zd39_36 rfl rfl rfl ?_
          refine zv_ild hB zd39_37 rfl rfl ?_
          refine zv_zne hB zd39_38 rfl (fun hc => absurd hc (by decide)) (fun _ => ?_)
          refine zv_ild hB zd39_41 rfl rfl ?_
          refine zv_con hB zd39_42 rfl ?_
          refine zv_ceq hB zd39_44 rfl (fun hc25 => ?_) (fun hc25 => ?_)
          · rw [if_pos hc25] at h
            refine zv_ald hB zd39_59 rfl rfl rfl ?_
            refine zv_getq hB zd39_60 rfl rfl rfl ?_
            refine zv_getf hB zd39_63 rfl rfl (fun _ _ => ?_)
            refine zv_con hB zd39_66 rfl ?_
            refine zv_cne hB zd39_68 rfl (fun hc26 => ?_) (fun hc26 => ?_)
            · rw [if_neg hc26] at h
              refine zv_ald hB zd39_77 rfl rfl rfl ?_
              refine zv_dup hB zd39_78 rfl ?_
              refine zv_getf hB zd39_79 rfl rfl (fun _ _ => ?_)
              refine zv_con hB zd39_82 rfl ?_
              refine zv_addw hB zd39_83 ?_
              refine zv_putf hB zd39_84 rfl rfl (fun h => by cases h) rfl ?_
              refine zv_ald hB zd39_87 rfl rfl rfl ?_
              refine zv_getq hB zd39_88 rfl rfl rfl ?_
              refine zv_getf hB zd39_91 rfl rfl (fun _ _ => ?_)
              refine zv_ist hB zd39_94 rfl rfl rfl ?_
              refine zv_ild hB zd39_95 rfl rfl ?_
              refine zv_zeq hB zd39_96 rfl (fun _ => ?_) (fun hc => absurd hc (by decide))
              refine zv_ald hB zd39_104 rfl rfl rfl ?_
              refine zv_getq hB zd39_105 rfl rfl rfl ?_
              refine zv_getf hB zd39_108 rfl rfl (fun _ _ => ?_)
              refine zv_ist hB zd39_111 rfl rfl rfl ?_
              refine zv_ald hB zd39_113 rfl rfl rfl ?_
              refine zv_con hB zd39_114 rfl ?_
              obtain ⟨r28, hr28, h⟩ := zi_bind h
              refine zv_cv hB (zv_emq (va2 := [.inr 0, .inl 40]) (F := [.inl f0, .inl (zi_w (f1 + 1)), .inl f2, .inr 2, .inl f4, .inl f5, .inl f6, .inl f7, .inl f8, .inl f9]) (F' := [.inl r28.1, .inl r28.2, .inl f2, .inr 2, .inl f4, .inl f5, .inl f6, .inl f7, .inl f8, .inl f9]) (G := [g0, g1, g2, g3, g4, g5, g6]) (G' := [g0, g1, g2, g3, g4, g5, g6]) (ρ := [0, 1]) (φ := [0, 1, 2]) (ψ := [0]) [some 0, some 1, some 2, none, none, none, none, none, none, none] [some 0, none, none, none, none, none, none] zyw_LawReader_skip zyw_LawReader_readClause zye_LawReader_readClause (by decide +kernel) (zt_LawReader_skip hr28) ⟨⟨_, rfl, fun _ => rfl⟩, ⟨_, rfl, fun _ => rfl⟩, ⟨_, rfl, fun _ => rfl⟩, trivial⟩ ⟨rfl, trivial⟩ rfl rfl rfl rfl rfl rfl rfl) zd39_116 zxt46 rfl (by decide) (by decide) rfl ?_
              refine zv_ald hB zd39_119 rfl rfl rfl ?_
              refine zv_con hB zd39_120 rfl ?_
              obtain ⟨r29, hr29, h⟩ := zi_bind h
              refine zv_cv hB (zv_emq (va2 := [.inr 0, .inl 1]) (F := [.inl r28.1, .inl r28.2, .inl f2, .inr 2, .inl f4, .inl f5, .inl f6, .inl f7, .inl f8, .inl f9]) (F' := [.inl r29.1, .inl r29.2.1, .inl f2, .inr 2, .inl f4, .inl r29.2.2.1, .inl f6, .inl f7, .inl f8, .inl f9]) (G := [g0, g1, g2, g3, g4, g5, g6]) (G' := [g0, r29.2.2.2.1, r29.2.2.2.2, g3, g4, g5, g6]) (ρ := [0, 1, 2, 3, 4]) (φ := [0, 1, 2, 3, 5]) (ψ := [0, 1, 2]) [some 0, some 1, some 2, some 3, none, some 4, none, none, none, none] [some 0, some 1, some 2, none, none, none, none] zyw_LawReader_readCondition zyw_LawReader_readClause zye_LawReader_readClause (by decide +kernel) (zt_LawReader_readCondition hr29) ⟨⟨_, rfl, fun _ => rfl⟩, ⟨_, rfl, fun _ => rfl⟩, ⟨_, rfl, fun _ => rfl⟩, ⟨_, rfl, fun _ => rfl⟩, ⟨_, rfl, fun _ => rfl⟩, trivial⟩ ⟨rfl, rfl, rfl, trivial⟩ rfl rfl rfl rfl rfl rfl rfl) zd39_121 zxt69 rfl (by decide) (by decide) rfl ?_
              refine zv_ald hB zd39_124 rfl rfl rfl ?_
              refine zv_con hB zd39_125 rfl ?_
              obtain ⟨r30, hr30, h⟩ := zi_bind h
              refine zv_cv hB (zv_emq (va2 := [.inr 0, .inl 41]) (F := [.inl r29.1, .inl r29.2.1, .inl f2, .inr 2, .inl f4, .inl r29.2.2.1, .inl f6, .inl f7, .inl f8, .inl f9]) (F' := [.inl r30.1, .inl r30.2, .inl f2, .inr 2, .inl f4, .inl r29.2.2.1, .inl f6, .inl f7, .inl f8, .inl f9]) (G := [g0, r29.2.2.2.1, r29.2.2.2.2, g3, g4, g5, g6]) (G' := [g0, r29.2.2.2.1, r29.2.2.2.2, g3, g4, g5, g6]) (ρ := [0, 1]) (φ := [0, 1, 2]) (ψ := [0]) [some 0, some 1, some 2, none, none, none, none, none, none, none] [some 0, none, none, none, none, none, none] zyw_LawReader_skip zyw_LawReader_readClause zye_LawReader_readClause (by decide +kernel) (zt_LawReader_skip hr30) ⟨⟨_, rfl, fun _ => rfl⟩, ⟨_, rfl, fun _ => rfl⟩, ⟨_, rfl, fun _ => rfl⟩, trivial⟩ ⟨rfl, trivial⟩ rfl rfl rfl rfl rfl rfl rfl) zd39_127 zxt46 rfl (by decide) (by decide) rfl ?_
              refine zv_ald hB zd39_130 rfl rfl rfl ?_
              refine zv_getq hB zd39_131 rfl rfl rfl ?_
              refine zv_ild hB zd39_134 rfl rfl ?_
              refine zv_ild hB zd39_135 rfl rfl ?_
              refine zv_ild hB zd39_136 rfl rfl ?_
              obtain ⟨r31, hr31, h⟩ := zi_bind h
              refine zv_cv hB (zv_emq (va2 := [.inr 2, .inl r2, .inl f5, .inl f5]) (F := [.inl r30.1, .inl r30.2, .inl f2, .inr 2, .inl f4, .inl r29.2.2.1, .inl f6, .inl f7, .inl f8, .inl f9]) (F' := [.inl r30.1, .inl r30.2, .inl f2, .inr 2, .inl r31.1, .inl r29.2.2.1, .inl r31.2.1, .inl r31.2.2.1, .inl r31.2.2.2.1, .inl r31.2.2.2.2.1]) (G := [g0, r29.2.2.2.1, r29.2.2.2.2, g3, g4, g5, g6]) (G' := [g0, r29.2.2.2.1, r29.2.2.2.2, r31.2.2.2.2.2.1, r31.2.2.2.2.2.2.1, r31.2.2.2.2.2.2.2.1, r31.2.2.2.2.2.2.2.2]) (ρ := [2, 5, 6, 7, 8, 3, 4]) (φ := [4, 5, 6, 7, 8, 9]) (ψ := [3, 4, 5, 6, 1, 2]) [none, none, none, none, some 0, some 1, some 2, some 3, some 4, some 5] [none, some 4, some 5, some 0, some 1, some 2, some 3] zyw_Law_addClause zyw_LawReader_readClause zye_LawReader_readClause (by decide +kernel) (zt_Law_addClause hr31) ⟨⟨_, rfl, fun _ => rfl⟩, ⟨_, rfl, fun _ => rfl⟩, ⟨_, rfl, fun _ => rfl⟩, ⟨_, rfl, fun _ => rfl⟩, ⟨_, rfl, fun _ => rfl⟩, ⟨_, rfl, fun _ => rfl⟩, trivial⟩ ⟨rfl, rfl, rfl, rfl, rfl, rfl, trivial⟩ rfl rfl rfl rfl rfl rfl rfl) zd39_138 zxt74 rfl (by decide) (by decide) rfl ?_
              have hw := Option.some.inj h
              subst hw
              exact hvret _ _ _ _ zd39_141 trivial ⟨rfl, rfl, rfl⟩
            · rw [if_pos hc26] at h
              refine zv_ald hB zd39_71 rfl rfl rfl ?_
              refine zv_con hB zd39_72 rfl ?_
              obtain ⟨r32, hr32, h⟩ := zi_bind h
              refine zv_cv hB (zv_emq (va2 := [.inr 0, .inl 4]) (F := [.inl f0, .inl f1, .inl f2, .inr 2, .inl f4, .inl f5, .inl f6, .inl f7, .inl f8, .inl f9]) (F' := [.inl r32, .inl f1, .inl f2, .inr 2, .inl f4, .inl f5, .inl f6, .inl f7, .inl f8, .inl f9]) (G := [g0, g1, g2, g3, g4, g5, g6]) (G' := [g0, g1, g2, g3, g4, g5, g6]) (ρ := [0]) (φ := [0, 1]) (ψ := []) [some 0, some 1, none, none, none, none, none, none, none, none] [none, none, none, none, none, none, none] zyw_LawReader_fail zyw_LawReader_readClause zye_LawReader_readClause (by decide +kernel) (zt_LawReader_fail hr32) ⟨⟨_, rfl, fun _ => rfl⟩, ⟨_, rfl, fun _ => rfl⟩, trivial⟩ trivial rfl rfl rfl rfl rfl rfl rfl) zd39_73 zxt41 rfl (by decide) (by decide) rfl ?_
              have hw := Option.some.inj h
              subst hw
              exact hvret _ _ _ _ zd39_76 trivial ⟨rfl, rfl, rfl⟩
          · rw [if_neg hc25] at h
            refine zv_ild hB zd39_47 rfl rfl ?_
            refine zv_con hB zd39_48 rfl ?_
            refine zv_ceq hB zd39_50 rfl (fun hc33 => ?_) (fun hc33 => ?_)
            · rw [if_pos hc33] at h
              refine zv_ald hB zd39_59 rfl rfl rfl ?_
              refine zv_getq hB zd39_60 rfl rfl rfl ?_
              refine zv_getf hB zd39_63 rfl rfl (fun _ _ => ?_)
              refine zv_con hB zd39_66 rfl ?_
              refine zv_cne hB zd39_68 rfl (fun hc34 => ?_) (fun hc34 => ?_)
              · rw [if_neg hc34] at h
                refine zv_ald hB zd39_77 rfl rfl rfl ?_
                refine zv_dup hB zd39_78 rfl ?_
                refine zv_getf hB zd39_79 rfl rfl (fun _ _ => ?_)
                refine zv_con hB zd39_82 rfl ?_
                refine zv_addw hB zd39_83 ?_
                refine zv_putf hB zd39_84 rfl rfl (fun h => by cases h) rfl ?_
                refine zv_ald hB zd39_87 rfl rfl rfl ?_
                refine zv_getq hB zd39_88 rfl rfl rfl ?_
                refine zv_getf hB zd39_91 rfl rfl (fun _ _ => ?_)
                refine zv_ist hB zd39_94 rfl rfl rfl ?_
                refine zv_ild hB zd39_95 rfl rfl ?_
                refine zv_zeq hB zd39_96 rfl (fun _ => ?_) (fun hc => absurd hc (by decide))
                refine zv_ald hB zd39_104 rfl rfl rfl ?_
                refine zv_getq hB zd39_105 rfl rfl rfl ?_
                refine zv_getf hB zd39_108 rfl rfl (fun _ _ => ?_)
                refine zv_ist hB zd39_111 rfl rfl rfl ?_
                refine zv_ald hB zd39_113 rfl rfl rfl ?_
                refine zv_con hB zd39_114 rfl ?_
                obtain ⟨r36, hr36, h⟩ := zi_bind h
                refine zv_cv hB (zv_emq (va2 := [.inr 0, .inl 40]) (F := [.inl f0, .inl (zi_w (f1 + 1)), .inl f2, .inr 2, .inl f4, .inl f5, .inl f6, .inl f7, .inl f8, .inl f9]) (F' := [.inl r36.1, .inl r36.2, .inl f2, .inr 2, .inl f4, .inl f5, .inl f6, .inl f7, .inl f8, .inl f9]) (G := [g0, g1, g2, g3, g4, g5, g6]) (G' := [g0, g1, g2, g3, g4, g5, g6]) (ρ := [0, 1]) (φ := [0, 1, 2]) (ψ := [0]) [some 0, some 1, some 2, none, none, none, none, none, none, none] [some 0, none, none, none, none, none, none] zyw_LawReader_skip zyw_LawReader_readClause zye_LawReader_readClause (by decide +kernel) (zt_LawReader_skip hr36) ⟨⟨_, rfl, fun _ => rfl⟩, ⟨_, rfl, fun _ => rfl⟩, ⟨_, rfl, fun _ => rfl⟩, trivial⟩ ⟨rfl, trivial⟩ rfl rfl rfl rfl rfl rfl rfl) zd39_116 zxt46 rfl (by decide) (by decide) rfl ?_
                refine zv_ald hB zd39_119 rfl rfl rfl ?_
                refine zv_con hB zd39_120 rfl ?_
                obtain ⟨r37, hr37, h⟩ := zi_bind h
                refine zv_cv hB (zv_emq (va2 := [.inr 0, .inl 1]) (F := [.inl r36.1, .inl r36.2, .inl f2, .inr 2, .inl f4, .inl f5, .inl f6, .inl f7, .inl f8, .inl f9]) (F' := [.inl r37.1, .inl r37.2.1, .inl f2, .inr 2, .inl f4, .inl r37.2.2.1, .inl f6, .inl f7, .inl f8, .inl f9]) (G := [g0, g1, g2, g3, g4, g5, g6]) (G' := [g0, r37.2.2.2.1, r37.2.2.2.2, g3, g4, g5, g6]) (ρ := [0, 1, 2, 3, 4]) (φ := [0, 1, 2, 3, 5]) (ψ := [0, 1, 2]) [some 0, some 1, some 2, some 3, none, some 4, none, none, none, none] [some 0, some 1, some 2, none, none, none, none] zyw_LawReader_readCondition zyw_LawReader_readClause zye_LawReader_readClause (by decide +kernel) (zt_LawReader_readCondition hr37) ⟨⟨_, rfl, fun _ => rfl⟩, ⟨_, rfl, fun _ => rfl⟩, ⟨_, rfl, fun _ => rfl⟩, ⟨_, rfl, fun _ => rfl⟩, ⟨_, rfl, fun _ => rfl⟩, trivial⟩ ⟨rfl, rfl, rfl, trivial⟩ rfl rfl rfl rfl rfl rfl rfl) zd39_121 zxt69 rfl (by decide) (by decide) rfl ?_
                refine zv_ald hB zd39_124 rfl rfl rfl ?_
                refine zv_con hB zd39_125 rfl ?_
                obtain ⟨r38, hr38, h⟩ := zi_bind h
                refine zv_cv hB (zv_emq (va2 := [.inr 0, .inl 41]) (F := [.inl r37.1, .inl r37.2.1, .inl f2, .inr 2, .inl f4, .inl r37.2.2.1, .inl f6, .inl f7, .inl f8, .inl f9]) (F' := [.inl r38.1, .inl r38.2, .inl f2, .inr 2, .inl f4, .inl r37.2.2.1, .inl f6, .inl f7, .inl f8, .inl f9]) (G := [g0, r37.2.2.2.1, r37.2.2.2.2, g3, g4, g5, g6]) (G' := [g0, r37.2.2.2.1, r37.2.2.2.2, g3, g4, g5, g6]) (ρ := [0, 1]) (φ := [0, 1, 2]) (ψ := [0]) [some 0, some 1, some 2, none, none, none, none, none, none, none] [some 0, none, none, none, none, none, none] zyw_LawReader_skip zyw_LawReader_readClause zye_LawReader_readClause (by decide +kernel) (zt_LawReader_skip hr38) ⟨⟨_, rfl, fun _ => rfl⟩, ⟨_, rfl, fun _ => rfl⟩, ⟨_, rfl, fun _ => rfl⟩, trivial⟩ ⟨rfl, trivial⟩ rfl rfl rfl rfl rfl rfl rfl) zd39_127 zxt46 rfl (by decide) (by decide) rfl ?_
                refine zv_ald hB zd39_130 rfl rfl rfl ?_
                refine zv_getq hB zd39_131 rfl rfl rfl ?_
                refine zv_ild hB zd39_134 rfl rfl ?_
                refine zv_ild hB zd39_135 rfl rfl ?_
                refine zv_ild hB zd39_136 rfl rfl ?_
                obtain ⟨r39, hr39, h⟩ := zi_bind h
                refine zv_cv hB (zv_emq (va2 := [.inr 2, .inl r2, .inl f5, .inl f5]) (F := [.inl r38.1, .inl r38.2, .inl f2, .inr 2, .inl f4, .inl r37.2.2.1, .inl f6, .inl f7, .inl f8, .inl f9]) (F' := [.inl r38.1, .inl r38.2, .inl f2, .inr 2, .inl r39.1, .inl r37.2.2.1, .inl r39.2.1, .inl r39.2.2.1, .inl r39.2.2.2.1, .inl r39.2.2.2.2.1]) (G := [g0, r37.2.2.2.1, r37.2.2.2.2, g3, g4, g5, g6]) (G' := [g0, r37.2.2.2.1, r37.2.2.2.2, r39.2.2.2.2.2.1, r39.2.2.2.2.2.2.1, r39.2.2.2.2.2.2.2.1, r39.2.2.2.2.2.2.2.2]) (ρ := [2, 5, 6, 7, 8, 3, 4]) (φ := [4, 5, 6, 7, 8, 9]) (ψ := [3, 4, 5, 6, 1, 2]) [none, none, none, none, some 0, some 1, some 2, some 3, some 4, some 5] [none, some 4, some 5, some 0, some 1, some 2, some 3] zyw_Law_addClause zyw_LawReader_readClause zye_LawReader_readClause (by decide +kernel) (zt_Law_addClause hr39) ⟨⟨_, rfl, fun _ => rfl⟩, ⟨_, rfl, fun _ => rfl⟩, ⟨_, rfl, fun _ => rfl⟩, ⟨_, rfl, fun _ => rfl⟩, ⟨_, rfl, fun _ => rfl⟩, ⟨_, rfl, fun _ => rfl⟩, trivial⟩ ⟨rfl, rfl, rfl, rfl, rfl, rfl, trivial⟩ rfl rfl rfl rfl rfl rfl rfl) zd39_138 zxt74 rfl (by decide) (by decide) rfl ?_
                have hw := Option.some.inj h
                subst hw
                exact hvret _ _ _ _ zd39_141 trivial ⟨rfl, rfl, rfl⟩
              · rw [if_pos hc34] at h
                refine zv_ald hB zd39_71 rfl rfl rfl ?_
                refine zv_con hB zd39_72 rfl ?_
                obtain ⟨r40, hr40, h⟩ := zi_bind h
                refine zv_cv hB (zv_emq (va2 := [.inr 0, .inl 4]) (F := [.inl f0, .inl f1, .inl f2, .inr 2, .inl f4, .inl f5, .inl f6, .inl f7, .inl f8, .inl f9]) (F' := [.inl r40, .inl f1, .inl f2, .inr 2, .inl f4, .inl f5, .inl f6, .inl f7, .inl f8, .inl f9]) (G := [g0, g1, g2, g3, g4, g5, g6]) (G' := [g0, g1, g2, g3, g4, g5, g6]) (ρ := [0]) (φ := [0, 1]) (ψ := []) [some 0, some 1, none, none, none, none, none, none, none, none] [none, none, none, none, none, none, none] zyw_LawReader_fail zyw_LawReader_readClause zye_LawReader_readClause (by decide +kernel) (zt_LawReader_fail hr40) ⟨⟨_, rfl, fun _ => rfl⟩, ⟨_, rfl, fun _ => rfl⟩, trivial⟩ trivial rfl rfl rfl rfl rfl rfl rfl) zd39_73 zxt41 rfl (by decide) (by decide) rfl ?_
                have hw := Option.some.inj h
                subst hw
                exact hvret _ _ _ _ zd39_76 trivial ⟨rfl, rfl, rfl⟩
            · rw [if_neg hc33] at h
              refine zv_ald hB zd39_53 rfl rfl rfl ?_
              refine zv_con hB zd39_54 rfl ?_
              obtain ⟨r41, hr41, h⟩ := zi_bind h
              refine zv_cv hB (zv_emq (va2 := [.inr 0, .inl 1]) (F := [.inl f0, .inl f1, .inl f2, .inr 2, .inl f4, .inl f5, .inl f6, .inl f7, .inl f8, .inl f9]) (F' := [.inl r41, .inl f1, .inl f2, .inr 2, .inl f4, .inl f5, .inl f6, .inl f7, .inl f8, .inl f9]) (G := [g0, g1, g2, g3, g4, g5, g6]) (G' := [g0, g1, g2, g3, g4, g5, g6]) (ρ := [0]) (φ := [0, 1]) (ψ := []) [some 0, some 1, none, none, none, none, none, none, none, none] [none, none, none, none, none, none, none] zyw_LawReader_fail zyw_LawReader_readClause zye_LawReader_readClause (by decide +kernel) (zt_LawReader_fail hr41) ⟨⟨_, rfl, fun _ => rfl⟩, ⟨_, rfl, fun _ => rfl⟩, trivial⟩ trivial rfl rfl rfl rfl rfl rfl rfl) zd39_55 zxt41 rfl (by decide) (by decide) rfl ?_
              have hw := Option.some.inj h
              subst hw
              exact hvret _ _ _ _ zd39_58 trivial ⟨rfl, rfl, rfl⟩
        · rw [if_pos hc23] at h
          refine zv_con hB zd39_31 rfl ?_
          refine zv_goto hB zd39_32 rfl ?_
          refine zv_ist hB zd39_36 rfl rfl rfl ?_
          refine zv_ild hB zd39_37 rfl rfl ?_
          refine zv_zne hB zd39_38 rfl (fun _ => ?_) (fun hc => absurd hc (by decide))
          refine zv_ald hB zd39_59 rfl rfl rfl ?_
          refine zv_getq hB zd39_60 rfl rfl rfl ?_
          refine zv_getf hB zd39_63 rfl rfl (fun _ _ => ?_)
          refine zv_con hB zd39_66 rfl ?_
          refine zv_cne hB zd39_68 rfl (fun hc43 => ?_) (fun hc43 => ?_)
          · rw [if_neg hc43] at h
            refine zv_ald hB zd39_77 rfl rfl rfl ?_
            refine zv_dup hB zd39_78 rfl ?_
            refine zv_getf hB zd39_79 rfl rfl (fun _ _ => ?_)
            refine zv_con hB zd39_82 rfl ?_
            refine zv_addw hB zd39_83 ?_
            refine zv_putf hB zd39_84 rfl rfl (fun h => by cases h) rfl ?_
            refine zv_ald hB zd39_87 rfl rfl rfl ?_
            refine zv_getq hB zd39_88 rfl rfl rfl ?_
            refine zv_getf hB zd39_91 rfl rfl (fun _ _ => ?_)
            refine zv_ist hB zd39_94 rfl rfl rfl ?_
            refine zv_ild hB zd39_95 rfl rfl ?_
            refine zv_zeq hB zd39_96 rfl (fun hc => absurd hc (by decide)) (fun _ => ?_)
            refine zv_ald hB zd39_99 rfl rfl rfl ?_
            refine zv_con hB zd39_100 rfl ?_
            obtain ⟨r45, hr45, h⟩ := zi_bind h
            refine zv_cv hB (zv_emq (va2 := [.inr 0, .inl 0]) (F := [.inl f0, .inl (zi_w (f1 + 1)), .inl f2, .inr 2, .inl f4, .inl f5, .inl f6, .inl f7, .inl f8, .inl f9]) (F' := [.inl r45.1, .inl r45.2.1, .inl f2, .inr 2, .inl f4, .inl r45.2.2.1, .inl f6, .inl f7, .inl f8, .inl f9]) (G := [g0, g1, g2, g3, g4, g5, g6]) (G' := [g0, r45.2.2.2.1, r45.2.2.2.2, g3, g4, g5, g6]) (ρ := [0, 1, 2, 3, 4]) (φ := [0, 1, 2, 3, 5]) (ψ := [0, 1, 2]) [some 0, some 1, some 2, some 3, none, some 4, none, none, none, none] [some 0, some 1, some 2, none, none, none, none] zyw_LawReader_readSum zyw_LawReader_readClause zye_LawReader_readClause (by decide +kernel) (zt_LawReader_readSum hr45) ⟨⟨_, rfl, fun _ => rfl⟩, ⟨_, rfl, fun _ => rfl⟩, ⟨_, rfl, fun _ => rfl⟩, ⟨_, rfl, fun _ => rfl⟩, ⟨_, rfl, fun _ => rfl⟩, trivial⟩ ⟨rfl, rfl, rfl, trivial⟩ rfl rfl rfl rfl rfl rfl rfl) zd39_101 zxt43 rfl (by decide) (by decide) rfl ?_
            refine zv_ald hB zd39_104 rfl rfl rfl ?_
            refine zv_getq hB zd39_105 rfl rfl rfl ?_
            refine zv_getf hB zd39_108 rfl rfl (fun _ _ => ?_)
            refine zv_ist hB zd39_111 rfl rfl rfl ?_
            refine zv_ald hB zd39_113 rfl rfl rfl ?_
            refine zv_con hB zd39_114 rfl ?_
            obtain ⟨r46, hr46, h⟩ := zi_bind h
            refine zv_cv hB (zv_emq (va2 := [.inr 0, .inl 40]) (F := [.inl r45.1, .inl r45.2.1, .inl f2, .inr 2, .inl f4, .inl r45.2.2.1, .inl f6, .inl f7, .inl f8, .inl f9]) (F' := [.inl r46.1, .inl r46.2, .inl f2, .inr 2, .inl f4, .inl r45.2.2.1, .inl f6, .inl f7, .inl f8, .inl f9]) (G := [g0, r45.2.2.2.1, r45.2.2.2.2, g3, g4, g5, g6]) (G' := [g0, r45.2.2.2.1, r45.2.2.2.2, g3, g4, g5, g6]) (ρ := [0, 1]) (φ := [0, 1, 2]) (ψ := [0]) [some 0, some 1, some 2, none, none, none, none, none, none, none] [some 0, none, none, none, none, none, none] zyw_LawReader_skip zyw_LawReader_readClause zye_LawReader_readClause (by decide +kernel) (zt_LawReader_skip hr46) ⟨⟨_, rfl, fun _ => rfl⟩, ⟨_, rfl, fun _ => rfl⟩, ⟨_, rfl, fun _ => rfl⟩, trivial⟩ ⟨rfl, trivial⟩ rfl rfl rfl rfl rfl rfl rfl) zd39_116 zxt46 rfl (by decide) (by decide) rfl ?_
            refine zv_ald hB zd39_119 rfl rfl rfl ?_
            refine zv_con hB zd39_120 rfl ?_
            obtain ⟨r47, hr47, h⟩ := zi_bind h
            refine zv_cv hB (zv_emq (va2 := [.inr 0, .inl 1]) (F := [.inl r46.1, .inl r46.2, .inl f2, .inr 2, .inl f4, .inl r45.2.2.1, .inl f6, .inl f7, .inl f8, .inl f9]) (F' := [.inl r47.1, .inl r47.2.1, .inl f2, .inr 2, .inl f4, .inl r47.2.2.1, .inl f6, .inl f7, .inl f8, .inl f9]) (G := [g0, r45.2.2.2.1, r45.2.2.2.2, g3, g4, g5, g6]) (G' := [g0, r47.2.2.2.1, r47.2.2.2.2, g3, g4, g5, g6]) (ρ := [0, 1, 2, 3, 4]) (φ := [0, 1, 2, 3, 5]) (ψ := [0, 1, 2]) [some 0, some 1, some 2, some 3, none, some 4, none, none, none, none] [some 0, some 1, some 2, none, none, none, none] zyw_LawReader_readCondition zyw_LawReader_readClause zye_LawReader_readClause (by decide +kernel) (zt_LawReader_readCondition hr47) ⟨⟨_, rfl, fun _ => rfl⟩, ⟨_, rfl, fun _ => rfl⟩, ⟨_, rfl, fun _ => rfl⟩, ⟨_, rfl, fun _ => rfl⟩, ⟨_, rfl, fun _ => rfl⟩, trivial⟩ ⟨rfl, rfl, rfl, trivial⟩ rfl rfl rfl rfl rfl rfl rfl) zd39_121 zxt69 rfl (by decide) (by decide) rfl ?_
            refine zv_ald hB zd39_124 rfl rfl rfl ?_
            refine zv_con hB zd39_125 rfl ?_
            obtain ⟨r48, hr48, h⟩ := zi_bind h
            refine zv_cv hB (zv_emq (va2 := [.inr 0, .inl 41]) (F := [.inl r47.1, .inl r47.2.1, .inl f2, .inr 2, .inl f4, .inl r47.2.2.1, .inl f6, .inl f7, .inl f8, .inl f9]) (F' := [.inl r48.1, .inl r48.2, .inl f2, .inr 2, .inl f4, .inl r47.2.2.1, .inl f6, .inl f7, .inl f8, .inl f9]) (G := [g0, r47.2.2.2.1, r47.2.2.2.2, g3, g4, g5, g6]) (G' := [g0, r47.2.2.2.1, r47.2.2.2.2, g3, g4, g5, g6]) (ρ := [0, 1]) (φ := [0, 1, 2]) (ψ := [0]) [some 0, some 1, some 2, none, none, none, none, none, none, none] [some 0, none, none, none, none, none, none] zyw_LawReader_skip zyw_LawReader_readClause zye_LawReader_readClause (by decide +kernel) (zt_LawReader_skip hr48) ⟨⟨_, rfl, fun _ => rfl⟩, ⟨_, rfl, fun _ => rfl⟩, ⟨_, rfl, fun _ => rfl⟩, trivial⟩ ⟨rfl, trivial⟩ rfl rfl rfl rfl rfl rfl rfl) zd39_127 zxt46 rfl (by decide) (by decide) rfl ?_
            refine zv_ald hB zd39_130 rfl rfl rfl ?_
            refine zv_getq hB zd39_131 rfl rfl rfl ?_
            refine zv_ild hB zd39_134 rfl rfl ?_
            refine zv_ild hB zd39_135 rfl rfl ?_
            refine zv_ild hB zd39_136 rfl rfl ?_
            obtain ⟨r49, hr49, h⟩ := zi_bind h
            refine zv_cv hB (zv_emq (va2 := [.inr 2, .inl r2, .inl f5, .inl r45.2.2.1]) (F := [.inl r48.1, .inl r48.2, .inl f2, .inr 2, .inl f4, .inl r47.2.2.1, .inl f6, .inl f7, .inl f8, .inl f9]) (F' := [.inl r48.1, .inl r48.2, .inl f2, .inr 2, .inl r49.1, .inl r47.2.2.1, .inl r49.2.1, .inl r49.2.2.1, .inl r49.2.2.2.1, .inl r49.2.2.2.2.1]) (G := [g0, r47.2.2.2.1, r47.2.2.2.2, g3, g4, g5, g6]) (G' := [g0, r47.2.2.2.1, r47.2.2.2.2, r49.2.2.2.2.2.1, r49.2.2.2.2.2.2.1, r49.2.2.2.2.2.2.2.1, r49.2.2.2.2.2.2.2.2]) (ρ := [2, 5, 6, 7, 8, 3, 4]) (φ := [4, 5, 6, 7, 8, 9]) (ψ := [3, 4, 5, 6, 1, 2]) [none, none, none, none, some 0, some 1, some 2, some 3, some 4, some 5] [none, some 4, some 5, some 0, some 1, some 2, some 3] zyw_Law_addClause zyw_LawReader_readClause zye_LawReader_readClause (by decide +kernel) (zt_Law_addClause hr49) ⟨⟨_, rfl, fun _ => rfl⟩, ⟨_, rfl, fun _ => rfl⟩, ⟨_, rfl, fun _ => rfl⟩, ⟨_, rfl, fun _ => rfl⟩, ⟨_, rfl, fun _ => rfl⟩, ⟨_, rfl, fun _ => rfl⟩, trivial⟩ ⟨rfl, rfl, rfl, rfl, rfl, rfl, trivial⟩ rfl rfl rfl rfl rfl rfl rfl) zd39_138 zxt74 rfl (by decide) (by decide) rfl ?_
            have hw := Option.some.inj h
            subst hw
            exact hvret _ _ _ _ zd39_141 trivial ⟨rfl, rfl, rfl⟩
          · rw [if_pos hc43] at h
            refine zv_ald hB zd39_71 rfl rfl rfl ?_
            refine zv_con hB zd39_72 rfl ?_
            obtain ⟨r50, hr50, h⟩ := zi_bind h
            refine zv_cv hB (zv_emq (va2 := [.inr 0, .inl 4]) (F := [.inl f0, .inl f1, .inl f2, .inr 2, .inl f4, .inl f5, .inl f6, .inl f7, .inl f8, .inl f9]) (F' := [.inl r50, .inl f1, .inl f2, .inr 2, .inl f4, .inl f5, .inl f6, .inl f7, .inl f8, .inl f9]) (G := [g0, g1, g2, g3, g4, g5, g6]) (G' := [g0, g1, g2, g3, g4, g5, g6]) (ρ := [0]) (φ := [0, 1]) (ψ := []) [some 0, some 1, none, none, none, none, none, none, none, none] [none, none, none, none, none, none, none] zyw_LawReader_fail zyw_LawReader_readClause zye_LawReader_readClause (by decide +kernel) (zt_LawReader_fail hr50) ⟨⟨_, rfl, fun _ => rfl⟩, ⟨_, rfl, fun _ => rfl⟩, trivial⟩ trivial rfl rfl rfl rfl rfl rfl rfl) zd39_73 zxt41 rfl (by decide) (by decide) rfl ?_
            have hw := Option.some.inj h
            subst hw
            exact hvret _ _ _ _ zd39_76 trivial ⟨rfl, rfl, rfl⟩
  · rw [if_neg hc1] at h
    have hw := Option.some.inj h
    subst hw
    exact hvret _ _ _ _ zd39_7 trivial ⟨rfl, rfl, rfl⟩
