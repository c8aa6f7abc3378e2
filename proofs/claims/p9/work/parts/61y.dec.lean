/-! Methods as functions, and that they do what these do. -/
/-! M_readsClause ()Z -/
-- names: 0 StarTalesModel('arg', 0), 1 (1, 220)(0, 12, 3), 2 (0, 14)(0, 12, 16), 3 (0, 14)(0, 12, 17), 4 (0, 14)(0, 12, 18), 5 (0, 220)(0, 12, 15), 6 (0, 220)(0, 12, 14), 7 (0, 14)(0, 12, 19)
-- fields: f0 = 0.place0_, f1 = 0.length0_, f2 = 0.saidMany_, f3 = 0.codeMany_, f4 = 0.open_, f5 = 0.waiting_, f6 = 0.fault_, f7 = 0.number0_; arrays: g0 = 1, g1 = 2, g2 = 3, g3 = 4, g4 = 5, g5 = 6, g6 = 7; out: [('ret', None), ('f', 0), ('f', 2), ('f', 3), ('f', 4), ('f', 5), ('f', 6), ('f', 7), ('g', 1), ('g', 2), ('g', 3), ('g', 4), ('g', 5), ('g', 6)]
abbrev zy_M_readsClause : zNL := (8, [(0, 12)], [(0, 12, 5, 0), (0, 12, 6, 1), (0, 12, 11, 2), (0, 12, 9, 3), (0, 12, 8, 4), (0, 12, 10, 5), (0, 12, 7, 6), (0, 12, 12, 7)], [(0, 12, 3, 1), (0, 12, 16, 2), (0, 12, 17, 3), (0, 12, 18, 4), (0, 12, 15, 5), (0, 12, 14, 6), (0, 12, 19, 7)], [(1, 1, 220, 0), (2, 0, 14, 1), (3, 0, 14, 2), (4, 0, 14, 3), (5, 0, 220, 4), (6, 0, 220, 5), (7, 0, 14, 6)])
theorem zyw_M_readsClause : zv_wf zy_M_readsClause = true := by decide +kernel
theorem zye_M_readsClause : zv_ek2 zy_M_readsClause = true := by decide +kernel
def zf_M_readsClause (f0 : Int) (f1 : Int) (f2 : Int) (f3 : Int) (f4 : Int) (f5 : Int) (f6 : Int) (f7 : Int) (g0 : (Int → Int)) (g1 : (Int → Int)) (g2 : (Int → Int)) (g3 : (Int → Int)) (g4 : (Int → Int)) (g5 : (Int → Int)) (g6 : (Int → Int)) : Option (Int × Int × Int × Int × Int × Int × Int × Int × (Int → Int) × (Int → Int) × (Int → Int) × (Int → Int) × (Int → Int) × (Int → Int)) := (zf_M_here f0 f1 g0).bind fun r1 => ((zf_M_isClause r1).bind fun r2 => (if r2 = 0 then ((zf_M_wrongAt 1 f0 f6).bind fun r18 => (cond (zi_bo r18.1) (some (r18.1, f0, f2, f3, f4, f5, r18.2, f7, g1, g2, g3, g4, g5, g6)) none)) else (if f2 = 14 then ((zf_M_wrongAt 4 f0 f6).bind fun r16 => (cond (zi_bo r16.1) (some (r16.1, f0, f2, f3, f4, f5, r16.2, f7, g1, g2, g3, g4, g5, g6)) none)) else (cond (zi_ix f2 14) (if r1 = 118 then ((zf_M_readsCondition (zi_w (f0 + 1)) f1 0 0 f6 f3 f7 g0 g4 g5).bind fun r7 => (if r7.1 = 0 then (some (0, r7.2.1, f2, r7.2.2.2.2.2.1, r7.2.2.1, r7.2.2.2.1, r7.2.2.2.2.1, r7.2.2.2.2.2.2.1, (zv_up g1 f2 r1), (zv_up g2 f2 f3), (zv_up g3 f2 f3), r7.2.2.2.2.2.2.2.1, r7.2.2.2.2.2.2.2.2, g6)) else (some (1, r7.2.1, (zi_w (f2 + 1)), r7.2.2.2.2.2.1, r7.2.2.1, r7.2.2.2.1, r7.2.2.2.2.1, r7.2.2.2.2.2.2.1, (zv_up g1 f2 r1), (zv_up g2 f2 f3), (zv_up g3 f2 f3), r7.2.2.2.2.2.2.2.1, r7.2.2.2.2.2.2.2.2, (zv_up g6 f2 r7.2.2.2.2.2.1))))) else (if r1 = 106 then ((zf_M_readsCondition (zi_w (f0 + 1)) f1 0 0 f6 f3 f7 g0 g4 g5).bind fun r10 => (if r10.1 = 0 then (some (0, r10.2.1, f2, r10.2.2.2.2.2.1, r10.2.2.1, r10.2.2.2.1, r10.2.2.2.2.1, r10.2.2.2.2.2.2.1, (zv_up g1 f2 r1), (zv_up g2 f2 f3), (zv_up g3 f2 f3), r10.2.2.2.2.2.2.2.1, r10.2.2.2.2.2.2.2.2, g6)) else (some (1, r10.2.1, (zi_w (f2 + 1)), r10.2.2.2.2.2.1, r10.2.2.1, r10.2.2.2.1, r10.2.2.2.2.1, r10.2.2.2.2.2.2.1, (zv_up g1 f2 r1), (zv_up g2 f2 f3), (zv_up g3 f2 f3), r10.2.2.2.2.2.2.2.1, r10.2.2.2.2.2.2.2.2, (zv_up g6 f2 r10.2.2.2.2.2.1))))) else ((zf_M_readsSum 0 (zi_w (f0 + 1)) f1 0 f6 f3 f7 g0 g4 g5).bind fun r12 => (if r12.1 = 0 then (some (0, r12.2.2.1, f2, r12.2.2.2.2.2.1, r12.2.2.2.1, r12.2.1, r12.2.2.2.2.1, r12.2.2.2.2.2.2.1, (zv_up g1 f2 r1), (zv_up g2 f2 f3), g3, r12.2.2.2.2.2.2.2.1, r12.2.2.2.2.2.2.2.2, g6)) else ((zf_M_readsCondition r12.2.2.1 f1 r12.2.2.2.1 r12.2.1 r12.2.2.2.2.1 r12.2.2.2.2.2.1 r12.2.2.2.2.2.2.1 g0 r12.2.2.2.2.2.2.2.1 r12.2.2.2.2.2.2.2.2).bind fun r14 => (if r14.1 = 0 then (some (0, r14.2.1, f2, r14.2.2.2.2.2.1, r14.2.2.1, r14.2.2.2.1, r14.2.2.2.2.1, r14.2.2.2.2.2.2.1, (zv_up g1 f2 r1), (zv_up g2 f2 f3), (zv_up g3 f2 r12.2.2.2.2.2.1), r14.2.2.2.2.2.2.2.1, r14.2.2.2.2.2.2.2.2, g6)) else (some (1, r14.2.1, (zi_w (f2 + 1)), r14.2.2.2.2.2.1, r14.2.2.1, r14.2.2.2.1, r14.2.2.2.2.1, r14.2.2.2.2.2.2.1, (zv_up g1 f2 r1), (zv_up g2 f2 f3), (zv_up g3 f2 r12.2.2.2.2.2.1), r14.2.2.2.2.2.2.2.1, r14.2.2.2.2.2.2.2.2, (zv_up g6 f2 r14.2.2.2.2.2.1))))))))) none))))
theorem zd216_0 : decode zxm216.2.1 0 = .ok (.aload_n 0, 1) := by decide +kernel
theorem zd216_1 : decode zxm216.2.1 1 = .ok (.invokevirtual 182, 3) := by decide +kernel
theorem zd216_4 : decode zxm216.2.1 4 = .ok (.istore_n 1, 1) := by decide +kernel
theorem zd216_5 : decode zxm216.2.1 5 = .ok (.iload_n 1, 1) := by decide +kernel
theorem zd216_6 : decode zxm216.2.1 6 = .ok (.invokestatic 253, 3) := by decide +kernel
theorem zd216_9 : decode zxm216.2.1 9 = .ok (.ifCond .ne 13, 3) := by decide +kernel
theorem zd216_12 : decode zxm216.2.1 12 = .ok (.aload_n 0, 1) := by decide +kernel
theorem zd216_13 : decode zxm216.2.1 13 = .ok (.iconst 1, 1) := by decide +kernel
theorem zd216_14 : decode zxm216.2.1 14 = .ok (.aload_n 0, 1) := by decide +kernel
theorem zd216_15 : decode zxm216.2.1 15 = .ok (.getfield 176, 3) := by decide +kernel
theorem zd216_18 : decode zxm216.2.1 18 = .ok (.invokevirtual 189, 3) := by decide +kernel
theorem zd216_21 : decode zxm216.2.1 21 = .ok (.ireturn, 1) := by decide +kernel
theorem zd216_22 : decode zxm216.2.1 22 = .ok (.aload_n 0, 1) := by decide +kernel
theorem zd216_23 : decode zxm216.2.1 23 = .ok (.getfield 256, 3) := by decide +kernel
theorem zd216_26 : decode zxm216.2.1 26 = .ok (.bipush 14, 2) := by decide +kernel
theorem zd216_28 : decode zxm216.2.1 28 = .ok (.if_icmp .ne 13, 3) := by decide +kernel
theorem zd216_31 : decode zxm216.2.1 31 = .ok (.aload_n 0, 1) := by decide +kernel
theorem zd216_32 : decode zxm216.2.1 32 = .ok (.iconst 4, 1) := by decide +kernel
theorem zd216_33 : decode zxm216.2.1 33 = .ok (.aload_n 0, 1) := by decide +kernel
theorem zd216_34 : decode zxm216.2.1 34 = .ok (.getfield 176, 3) := by decide +kernel
theorem zd216_37 : decode zxm216.2.1 37 = .ok (.invokevirtual 189, 3) := by decide +kernel
theorem zd216_40 : decode zxm216.2.1 40 = .ok (.ireturn, 1) := by decide +kernel
theorem zd216_41 : decode zxm216.2.1 41 = .ok (.aload_n 0, 1) := by decide +kernel
theorem zd216_42 : decode zxm216.2.1 42 = .ok (.getfield 29, 3) := by decide +kernel
theorem zd216_45 : decode zxm216.2.1 45 = .ok (.aload_n 0, 1) := by decide +kernel
theorem zd216_46 : decode zxm216.2.1 46 = .ok (.getfield 256, 3) := by decide +kernel
theorem zd216_49 : decode zxm216.2.1 49 = .ok (.iload_n 1, 1) := by decide +kernel
theorem zd216_50 : decode zxm216.2.1 50 = .ok (.iastore, 1) := by decide +kernel
theorem zd216_51 : decode zxm216.2.1 51 = .ok (.aload_n 0, 1) := by decide +kernel
theorem zd216_52 : decode zxm216.2.1 52 = .ok (.aload_n 0, 1) := by decide +kernel
theorem zd216_53 : decode zxm216.2.1 53 = .ok (.getfield 176, 3) := by decide +kernel
theorem zd216_56 : decode zxm216.2.1 56 = .ok (.iconst 1, 1) := by decide +kernel
theorem zd216_57 : decode zxm216.2.1 57 = .ok (.iadd, 1) := by decide +kernel
theorem zd216_58 : decode zxm216.2.1 58 = .ok (.putfield 176, 3) := by decide +kernel
theorem zd216_61 : decode zxm216.2.1 61 = .ok (.aload_n 0, 1) := by decide +kernel
theorem zd216_62 : decode zxm216.2.1 62 = .ok (.getfield 32, 3) := by decide +kernel
theorem zd216_65 : decode zxm216.2.1 65 = .ok (.aload_n 0, 1) := by decide +kernel
theorem zd216_66 : decode zxm216.2.1 66 = .ok (.getfield 256, 3) := by decide +kernel
theorem zd216_69 : decode zxm216.2.1 69 = .ok (.aload_n 0, 1) := by decide +kernel
theorem zd216_70 : decode zxm216.2.1 70 = .ok (.getfield 199, 3) := by decide +kernel
theorem zd216_73 : decode zxm216.2.1 73 = .ok (.iastore, 1) := by decide +kernel
theorem zd216_74 : decode zxm216.2.1 74 = .ok (.aload_n 0, 1) := by decide +kernel
theorem zd216_75 : decode zxm216.2.1 75 = .ok (.iconst 0, 1) := by decide +kernel
theorem zd216_76 : decode zxm216.2.1 76 = .ok (.putfield 203, 3) := by decide +kernel
theorem zd216_79 : decode zxm216.2.1 79 = .ok (.aload_n 0, 1) := by decide +kernel
theorem zd216_80 : decode zxm216.2.1 80 = .ok (.iconst 0, 1) := by decide +kernel
theorem zd216_81 : decode zxm216.2.1 81 = .ok (.putfield 206, 3) := by decide +kernel
theorem zd216_84 : decode zxm216.2.1 84 = .ok (.iload_n 1, 1) := by decide +kernel
theorem zd216_85 : decode zxm216.2.1 85 = .ok (.bipush 118, 2) := by decide +kernel
theorem zd216_87 : decode zxm216.2.1 87 = .ok (.if_icmp .eq 18, 3) := by decide +kernel
theorem zd216_90 : decode zxm216.2.1 90 = .ok (.iload_n 1, 1) := by decide +kernel
theorem zd216_91 : decode zxm216.2.1 91 = .ok (.bipush 106, 2) := by decide +kernel
theorem zd216_93 : decode zxm216.2.1 93 = .ok (.if_icmp .eq 12, 3) := by decide +kernel
theorem zd216_96 : decode zxm216.2.1 96 = .ok (.aload_n 0, 1) := by decide +kernel
theorem zd216_97 : decode zxm216.2.1 97 = .ok (.invokevirtual 238, 3) := by decide +kernel
theorem zd216_100 : decode zxm216.2.1 100 = .ok (.ifCond .ne 5, 3) := by decide +kernel
theorem zd216_103 : decode zxm216.2.1 103 = .ok (.iconst 0, 1) := by decide +kernel
theorem zd216_104 : decode zxm216.2.1 104 = .ok (.ireturn, 1) := by decide +kernel
theorem zd216_105 : decode zxm216.2.1 105 = .ok (.aload_n 0, 1) := by decide +kernel
theorem zd216_106 : decode zxm216.2.1 106 = .ok (.getfield 35, 3) := by decide +kernel
theorem zd216_109 : decode zxm216.2.1 109 = .ok (.aload_n 0, 1) := by decide +kernel
theorem zd216_110 : decode zxm216.2.1 110 = .ok (.getfield 256, 3) := by decide +kernel
theorem zd216_113 : decode zxm216.2.1 113 = .ok (.aload_n 0, 1) := by decide +kernel
theorem zd216_114 : decode zxm216.2.1 114 = .ok (.getfield 199, 3) := by decide +kernel
theorem zd216_117 : decode zxm216.2.1 117 = .ok (.iastore, 1) := by decide +kernel
theorem zd216_118 : decode zxm216.2.1 118 = .ok (.aload_n 0, 1) := by decide +kernel
theorem zd216_119 : decode zxm216.2.1 119 = .ok (.invokevirtual 259, 3) := by decide +kernel
theorem zd216_122 : decode zxm216.2.1 122 = .ok (.ifCond .ne 5, 3) := by decide +kernel
theorem zd216_125 : decode zxm216.2.1 125 = .ok (.iconst 0, 1) := by decide +kernel
theorem zd216_126 : decode zxm216.2.1 126 = .ok (.ireturn, 1) := by decide +kernel
theorem zd216_127 : decode zxm216.2.1 127 = .ok (.aload_n 0, 1) := by decide +kernel
theorem zd216_128 : decode zxm216.2.1 128 = .ok (.getfield 38, 3) := by decide +kernel
theorem zd216_131 : decode zxm216.2.1 131 = .ok (.aload_n 0, 1) := by decide +kernel
theorem zd216_132 : decode zxm216.2.1 132 = .ok (.getfield 256, 3) := by decide +kernel
theorem zd216_135 : decode zxm216.2.1 135 = .ok (.aload_n 0, 1) := by decide +kernel
theorem zd216_136 : decode zxm216.2.1 136 = .ok (.getfield 199, 3) := by decide +kernel
theorem zd216_139 : decode zxm216.2.1 139 = .ok (.iastore, 1) := by decide +kernel
theorem zd216_140 : decode zxm216.2.1 140 = .ok (.aload_n 0, 1) := by decide +kernel
theorem zd216_141 : decode zxm216.2.1 141 = .ok (.aload_n 0, 1) := by decide +kernel
theorem zd216_142 : decode zxm216.2.1 142 = .ok (.getfield 256, 3) := by decide +kernel
theorem zd216_145 : decode zxm216.2.1 145 = .ok (.iconst 1, 1) := by decide +kernel
theorem zd216_146 : decode zxm216.2.1 146 = .ok (.iadd, 1) := by decide +kernel
theorem zd216_147 : decode zxm216.2.1 147 = .ok (.putfield 256, 3) := by decide +kernel
theorem zd216_150 : decode zxm216.2.1 150 = .ok (.iconst 1, 1) := by decide +kernel
theorem zd216_151 : decode zxm216.2.1 151 = .ok (.ireturn, 1) := by decide +kernel
theorem zt_M_readsClause {f0 : Int} {f1 : Int} {f2 : Int} {f3 : Int} {f4 : Int} {f5 : Int} {f6 : Int} {f7 : Int} {g0 : (Int → Int)} {g1 : (Int → Int)} {g2 : (Int → Int)} {g3 : (Int → Int)} {g4 : (Int → Int)} {g5 : (Int → Int)} {g6 : (Int → Int)} {o : Int × Int × Int × Int × Int × Int × Int × Int × (Int → Int) × (Int → Int) × (Int → Int) × (Int → Int) × (Int → Int) × (Int → Int)} (h : zf_M_readsClause f0 f1 f2 f3 f4 f5 f6 f7 g0 g1 g2 g3 g4 g5 g6 = some o) : zv_Fn z_TB z_cl z_KX zy_M_readsClause zxm216 (7, 420) [.inr 0] [.inl f0, .inl f1, .inl f2, .inl f3, .inl f4, .inl f5, .inl f6, .inl f7] [g0, g1, g2, g3, g4, g5, g6] (some o.1) [.inl o.2.1, .inl f1, .inl o.2.2.1, .inl o.2.2.2.1, .inl o.2.2.2.2.1, .inl o.2.2.2.2.2.1, .inl o.2.2.2.2.2.2.1, .inl o.2.2.2.2.2.2.2.1] [g0, o.2.2.2.2.2.2.2.2.1, o.2.2.2.2.2.2.2.2.2.1, o.2.2.2.2.2.2.2.2.2.2.1, o.2.2.2.2.2.2.2.2.2.2.2.1, o.2.2.2.2.2.2.2.2.2.2.2.2.1, o.2.2.2.2.2.2.2.2.2.2.2.2.2] := zv_meth (K := (z_KF13, z_KC13, z_KL13, z_KT13, [], [], [], none)) (FT := z_FT) (MT := z_MT) (n := 1) zxp216 (z_ks13 _ (fun _ h => List.mem_cons_of_mem _ h) _ _ _ _ (fun j r h _ => by cases h)) (fun _ _ => zs_KX_p) zyw_M_readsClause (fun va F G h => by obtain ⟨rfl, _⟩ := h; rfl) (fun va F G h => by obtain ⟨rfl, _⟩ := h; rfl) rfl fun good va F G hB hret hvret hP => by
  obtain ⟨rfl, rfl, rfl⟩ := hP
  unfold zf_M_readsClause at h
  refine zv_ald hB zd216_0 rfl rfl rfl ?_
  obtain ⟨r1, hr1, h⟩ := zi_bind h
  refine zv_cv hB (zv_emq (va2 := [.inr 0]) (F := [.inl f0, .inl f1, .inl f2, .inl f3, .inl f4, .inl f5, .inl f6, .inl f7]) (F' := [.inl f0, .inl f1, .inl f2, .inl f3, .inl f4, .inl f5, .inl f6, .inl f7]) (G := [g0, g1, g2, g3, g4, g5, g6]) (G' := [g0, g1, g2, g3, g4, g5, g6]) (ρ := [0, 1]) (φ := [0, 1]) (ψ := [0]) [some 0, some 1, none, none, none, none, none, none] [some 0, none, none, none, none, none, none] zyw_M_here zyw_M_readsClause zye_M_readsClause (by decide +kernel) (zt_M_here hr1) ⟨⟨_, rfl, fun _ => rfl⟩, ⟨_, rfl, fun _ => rfl⟩, trivial⟩ ⟨rfl, trivial⟩ rfl rfl rfl rfl rfl rfl rfl) zd216_1 zxt217 rfl (by decide) (by decide) rfl ?_
  refine zv_ist hB zd216_4 rfl rfl rfl ?_
  refine zv_ild hB zd216_5 rfl rfl ?_
  obtain ⟨r2, hr2, h⟩ := zi_bind h
  refine zv_cs hB (zv_emq (va2 := [.inl r1]) (F := [.inl f0, .inl f1, .inl f2, .inl f3, .inl f4, .inl f5, .inl f6, .inl f7]) (F' := [.inl f0, .inl f1, .inl f2, .inl f3, .inl f4, .inl f5, .inl f6, .inl f7]) (G := [g0, g1, g2, g3, g4, g5, g6]) (G' := [g0, g1, g2, g3, g4, g5, g6]) (ρ := []) (φ := []) (ψ := []) [none, none, none, none, none, none, none, none] [none, none, none, none, none, none, none] zyw_M_isClause zyw_M_readsClause zye_M_readsClause (by decide +kernel) (zt_M_isClause hr2) trivial trivial rfl rfl rfl rfl rfl rfl rfl) zd216_6 zxt218 rfl (by decide) (by decide) rfl ?_
  refine zv_zne hB zd216_9 rfl (fun hc3 => ?_) (fun hc3 => ?_)
  · rw [if_neg hc3] at h
    refine zv_ald hB zd216_22 rfl rfl rfl ?_
    refine zv_getf hB zd216_23 rfl rfl (fun _ _ => ?_)
    refine zv_con hB zd216_26 rfl ?_
    refine zv_cne hB zd216_28 rfl (fun hc4 => ?_) (fun hc4 => ?_)
    · rw [if_neg hc4] at h
      refine zv_ald hB zd216_41 rfl rfl rfl ?_
      refine zv_getr hB zd216_42 rfl ?_
      refine zv_ald hB zd216_45 rfl rfl rfl ?_
      refine zv_getf hB zd216_46 rfl rfl (fun _ _ => ?_)
      refine zv_ild hB zd216_49 rfl rfl ?_
      obtain ⟨c5, h⟩ := zi_if h
      refine zv_iast hB zd216_50 rfl rfl (zi_ix_ok c5).1 (zi_ix_ok c5).2 ?_
      refine zv_ald hB zd216_51 rfl rfl rfl ?_
      refine zv_ald hB zd216_52 rfl rfl rfl ?_
      refine zv_getf hB zd216_53 rfl rfl (fun _ _ => ?_)
      refine zv_con hB zd216_56 rfl ?_
      refine zv_addw hB zd216_57 ?_
      refine zv_putf hB zd216_58 rfl rfl (fun h => by cases h) rfl ?_
      refine zv_ald hB zd216_61 rfl rfl rfl ?_
      refine zv_getr hB zd216_62 rfl ?_
      refine zv_ald hB zd216_65 rfl rfl rfl ?_
      refine zv_getf hB zd216_66 rfl rfl (fun _ _ => ?_)
      refine zv_ald hB zd216_69 rfl rfl rfl ?_
      refine zv_getf hB zd216_70 rfl rfl (fun _ _ => ?_)
      refine zv_iast hB zd216_73 rfl rfl (zi_ix_ok c5).1 (zi_ix_ok c5).2 ?_
      refine zv_ald hB zd216_74 rfl rfl rfl ?_
      refine zv_con hB zd216_75 rfl ?_
      refine zv_putf hB zd216_76 rfl rfl (fun h => by cases h) rfl ?_
      refine zv_ald hB zd216_79 rfl rfl rfl ?_
      refine zv_con hB zd216_80 rfl ?_
      refine zv_putf hB zd216_81 rfl rfl (fun h => by cases h) rfl ?_
      refine zv_ild hB zd216_84 rfl rfl ?_
      refine zv_con hB zd216_85 rfl ?_
      refine zv_ceq hB zd216_87 rfl (fun hc6 => ?_) (fun hc6 => ?_)
      · rw [if_pos hc6] at h
        refine zv_ald hB zd216_105 rfl rfl rfl ?_
        refine zv_getr hB zd216_106 rfl ?_
        refine zv_ald hB zd216_109 rfl rfl rfl ?_
        refine zv_getf hB zd216_110 rfl rfl (fun _ _ => ?_)
        refine zv_ald hB zd216_113 rfl rfl rfl ?_
        refine zv_getf hB zd216_114 rfl rfl (fun _ _ => ?_)
        refine zv_iast hB zd216_117 rfl rfl (zi_ix_ok c5).1 (zi_ix_ok c5).2 ?_
        refine zv_ald hB zd216_118 rfl rfl rfl ?_
        obtain ⟨r7, hr7, h⟩ := zi_bind h
        refine zv_cv hB (zv_emq (va2 := [.inr 0]) (F := [.inl (zi_w (f0 + 1)), .inl f1, .inl f2, .inl f3, .inl 0, .inl 0, .inl f6, .inl f7]) (F' := [.inl r7.2.1, .inl f1, .inl f2, .inl r7.2.2.2.2.2.1, .inl r7.2.2.1, .inl r7.2.2.2.1, .inl r7.2.2.2.2.1, .inl r7.2.2.2.2.2.2.1]) (G := [g0, (zv_up g1 f2 r1), (zv_up g2 f2 f3), (zv_up g3 f2 f3), g4, g5, g6]) (G' := [g0, (zv_up g1 f2 r1), (zv_up g2 f2 f3), (zv_up g3 f2 f3), r7.2.2.2.2.2.2.2.1, r7.2.2.2.2.2.2.2.2, g6]) (ρ := [0, 1, 5, 6]) (φ := [0, 1, 4, 5, 6, 3, 7]) (ψ := [0, 4, 5]) [some 0, some 1, none, some 5, some 2, some 3, some 4, some 6] [some 0, none, none, none, some 1, some 2, none] zyw_M_readsCondition zyw_M_readsClause zye_M_readsClause (by decide +kernel) (zt_M_readsCondition hr7) ⟨⟨_, rfl, fun _ => rfl⟩, ⟨_, rfl, fun _ => rfl⟩, ⟨_, rfl, fun _ => rfl⟩, ⟨_, rfl, fun _ => rfl⟩, ⟨_, rfl, fun _ => rfl⟩, ⟨_, rfl, fun _ => rfl⟩, ⟨_, rfl, fun _ => rfl⟩, trivial⟩ ⟨rfl, rfl, rfl, trivial⟩ rfl rfl rfl rfl rfl rfl rfl) zd216_119 zxt231 rfl (by decide) (by decide) rfl ?_
        refine zv_zne hB zd216_122 rfl (fun hc8 => ?_) (fun hc8 => ?_)
        · rw [if_neg hc8] at h
          refine zv_ald hB zd216_127 rfl rfl rfl ?_
          refine zv_getr hB zd216_128 rfl ?_
          refine zv_ald hB zd216_131 rfl rfl rfl ?_
          refine zv_getf hB zd216_132 rfl rfl (fun _ _ => ?_)
          refine zv_ald hB zd216_135 rfl rfl rfl ?_
          refine zv_getf hB zd216_136 rfl rfl (fun _ _ => ?_)
          refine zv_iast hB zd216_139 rfl rfl (zi_ix_ok c5).1 (zi_ix_ok c5).2 ?_
          refine zv_ald hB zd216_140 rfl rfl rfl ?_
          refine zv_ald hB zd216_141 rfl rfl rfl ?_
          refine zv_getf hB zd216_142 rfl rfl (fun _ _ => ?_)
          refine zv_con hB zd216_145 rfl ?_
          refine zv_addw hB zd216_146 ?_
          refine zv_putf hB zd216_147 rfl rfl (fun h => by cases h) rfl ?_
          refine zv_con hB zd216_150 rfl ?_
          have hw := Option.some.inj h
          subst hw
          exact hret _ _ _ _ _ zd216_151 (by constructor <;> decide) ⟨rfl, rfl, rfl⟩
        · rw [if_pos hc8] at h
          refine zv_con hB zd216_125 rfl ?_
          have hw := Option.some.inj h
          subst hw
          exact hret _ _ _ _ _ zd216_126 (by constructor <;> decide) ⟨rfl, rfl, rfl⟩
      · rw [if_neg hc6] at h
        refine zv_ild hB zd216_90 rfl rfl ?_
        refine zv_con hB zd216_91 rfl ?_
        refine zv_ceq hB zd216_93 rfl (fun hc9 => ?_) (fun hc9 => ?_)
        · rw [if_pos hc9] at h
          refine zv_ald hB zd216_105 rfl rfl rfl ?_
          refine zv_getr hB zd216_106 rfl ?_
          refine zv_ald hB zd216_109 rfl rfl rfl ?_
          refine zv_getf hB zd216_110 rfl rfl (fun _ _ => ?_)
          refine zv_ald hB zd216_113 rfl rfl rfl ?_
          refine zv_getf hB zd216_114 rfl rfl (fun _ _ => ?_)
          refine zv_iast hB zd216_117 rfl rfl (zi_ix_ok c5).1 (zi_ix_ok c5).2 ?_
          refine zv_ald hB zd216_118 rfl rfl rfl ?_
          obtain ⟨r10, hr10, h⟩ := zi_bind h
          refine zv_cv hB (zv_emq (va2 := [.inr 0]) (F := [.inl (zi_w (f0 + 1)), .inl f1, .inl f2, .inl f3, .inl 0, .inl 0, .inl f6, .inl f7]) (F' := [.inl r10.2.1, .inl f1, .inl f2, .inl r10.2.2.2.2.2.1, .inl r10.2.2.1, .inl r10.2.2.2.1, .inl r10.2.2.2.2.1, .inl r10.2.2.2.2.2.2.1]) (G := [g0, (zv_up g1 f2 r1), (zv_up g2 f2 f3), (zv_up g3 f2 f3), g4, g5, g6]) (G' := [g0, (zv_up g1 f2 r1), (zv_up g2 f2 f3), (zv_up g3 f2 f3), r10.2.2.2.2.2.2.2.1, r10.2.2.2.2.2.2.2.2, g6]) (ρ := [0, 1, 5, 6]) (φ := [0, 1, 4, 5, 6, 3, 7]) (ψ := [0, 4, 5]) [some 0, some 1, none, some 5, some 2, some 3, some 4, some 6] [some 0, none, none, none, some 1, some 2, none] zyw_M_readsCondition zyw_M_readsClause zye_M_readsClause (by decide +kernel) (zt_M_readsCondition hr10) ⟨⟨_, rfl, fun _ => rfl⟩, ⟨_, rfl, fun _ => rfl⟩, ⟨_, rfl, fun _ => rfl⟩, ⟨_, rfl, fun _ => rfl⟩, ⟨_, rfl, fun _ => rfl⟩, ⟨_, rfl, fun _ => rfl⟩, ⟨_, rfl, fun _ => rfl⟩, trivial⟩ ⟨rfl, rfl, rfl, trivial⟩ rfl rfl rfl rfl rfl rfl rfl) zd216_119 zxt231 rfl (by decide) (by decide) rfl ?_
          refine zv_zne hB zd216_122 rfl (fun hc11 => ?_) (fun hc11 => ?_)
          · rw [if_neg hc11] at h
            refine zv_ald hB zd216_127 rfl rfl rfl ?_
            refine zv_getr hB zd216_128 rfl ?_
            refine zv_ald hB zd216_131 rfl rfl rfl ?_
            refine zv_getf hB zd216_132 rfl rfl (fun _ _ => ?_)
            refine zv_ald hB zd216_135 rfl rfl rfl ?_
            refine zv_getf hB zd216_136 rfl rfl (fun _ _ => ?_)
            refine zv_iast hB zd216_139 rfl rfl (zi_ix_ok c5).1 (zi_ix_ok c5).2 ?_
            refine zv_ald hB zd216_140 rfl rfl rfl ?_
            refine zv_ald hB zd216_141 rfl rfl rfl ?_
            refine zv_getf hB zd216_142 rfl rfl (fun _ _ => ?_)
            refine zv_con hB zd216_145 rfl ?_
            refine zv_addw hB zd216_146 ?_
            refine zv_putf hB zd216_147 rfl rfl (fun h => by cases h) rfl ?_
            refine zv_con hB zd216_150 rfl ?_
            have hw := Option.some.inj h
            subst hw
            exact hret _ _ _ _ _ zd216_151 (by constructor <;> decide) ⟨rfl, rfl, rfl⟩
          · rw [if_pos hc11] at h
            refine zv_con hB zd216_125 rfl ?_
            have hw := Option.some.inj h
            subst hw
            exact hret _ _ _ _ _ zd216_126 (by constructor <;> decide) ⟨rfl, rfl, rfl⟩
        · rw [if_neg hc9] at h
          refine zv_ald hB zd216_96 rfl rfl rfl ?_
          obtain ⟨r12, hr12, h⟩ := zi_bind h
          refine zv_cv hB (zv_emq (va2 := [.inr 0]) (F := [.inl (zi_w (f0 + 1)), .inl f1, .inl f2, .inl f3, .inl 0, .inl 0, .inl f6, .inl f7]) (F' := [.inl r12.2.2.1, .inl f1, .inl f2, .inl r12.2.2.2.2.2.1, .inl r12.2.2.2.1, .inl r12.2.1, .inl r12.2.2.2.2.1, .inl r12.2.2.2.2.2.2.1]) (G := [g0, (zv_up g1 f2 r1), (zv_up g2 f2 f3), g3, g4, g5, g6]) (G' := [g0, (zv_up g1 f2 r1), (zv_up g2 f2 f3), g3, r12.2.2.2.2.2.2.2.1, r12.2.2.2.2.2.2.2.2, g6]) (ρ := [0, 1, 5, 6]) (φ := [5, 0, 1, 4, 6, 3, 7]) (ψ := [0, 4, 5]) [some 1, some 2, none, some 5, some 3, some 0, some 4, some 6] [some 0, none, none, none, some 1, some 2, none] zyw_M_readsSum zyw_M_readsClause zye_M_readsClause (by decide +kernel) (zt_M_readsSum hr12) ⟨⟨_, rfl, fun _ => rfl⟩, ⟨_, rfl, fun _ => rfl⟩, ⟨_, rfl, fun _ => rfl⟩, ⟨_, rfl, fun _ => rfl⟩, ⟨_, rfl, fun _ => rfl⟩, ⟨_, rfl, fun _ => rfl⟩, ⟨_, rfl, fun _ => rfl⟩, trivial⟩ ⟨rfl, rfl, rfl, trivial⟩ rfl rfl rfl rfl rfl rfl rfl) zd216_97 zxt220 rfl (by decide) (by decide) rfl ?_
          refine zv_zne hB zd216_100 rfl (fun hc13 => ?_) (fun hc13 => ?_)
          · rw [if_neg hc13] at h
            refine zv_ald hB zd216_105 rfl rfl rfl ?_
            refine zv_getr hB zd216_106 rfl ?_
            refine zv_ald hB zd216_109 rfl rfl rfl ?_
            refine zv_getf hB zd216_110 rfl rfl (fun _ _ => ?_)
            refine zv_ald hB zd216_113 rfl rfl rfl ?_
            refine zv_getf hB zd216_114 rfl rfl (fun _ _ => ?_)
            refine zv_iast hB zd216_117 rfl rfl (zi_ix_ok c5).1 (zi_ix_ok c5).2 ?_
            refine zv_ald hB zd216_118 rfl rfl rfl ?_
            obtain ⟨r14, hr14, h⟩ := zi_bind h
            refine zv_cv hB (zv_emq (va2 := [.inr 0]) (F := [.inl r12.2.2.1, .inl f1, .inl f2, .inl r12.2.2.2.2.2.1, .inl r12.2.2.2.1, .inl r12.2.1, .inl r12.2.2.2.2.1, .inl r12.2.2.2.2.2.2.1]) (F' := [.inl r14.2.1, .inl f1, .inl f2, .inl r14.2.2.2.2.2.1, .inl r14.2.2.1, .inl r14.2.2.2.1, .inl r14.2.2.2.2.1, .inl r14.2.2.2.2.2.2.1]) (G := [g0, (zv_up g1 f2 r1), (zv_up g2 f2 f3), (zv_up g3 f2 r12.2.2.2.2.2.1), r12.2.2.2.2.2.2.2.1, r12.2.2.2.2.2.2.2.2, g6]) (G' := [g0, (zv_up g1 f2 r1), (zv_up g2 f2 f3), (zv_up g3 f2 r12.2.2.2.2.2.1), r14.2.2.2.2.2.2.2.1, r14.2.2.2.2.2.2.2.2, g6]) (ρ := [0, 1, 5, 6]) (φ := [0, 1, 4, 5, 6, 3, 7]) (ψ := [0, 4, 5]) [some 0, some 1, none, some 5, some 2, some 3, some 4, some 6] [some 0, none, none, none, some 1, some 2, none] zyw_M_readsCondition zyw_M_readsClause zye_M_readsClause (by decide +kernel) (zt_M_readsCondition hr14) ⟨⟨_, rfl, fun _ => rfl⟩, ⟨_, rfl, fun _ => rfl⟩, ⟨_, rfl, fun _ => rfl⟩, ⟨_, rfl, fun _ => rfl⟩, ⟨_, rfl, fun _ => rfl⟩, ⟨_, rfl, fun _ => rfl⟩, ⟨_, rfl, fun _ => rfl⟩, trivial⟩ ⟨rfl, rfl, rfl, trivial⟩ rfl rfl rfl rfl rfl rfl rfl) zd216_119 zxt231 rfl (by decide) (by decide) rfl ?_
            refine zv_zne hB zd216_122 rfl (fun hc15 => ?_) (fun hc15 => ?_)
            · rw [if_neg hc15] at h
              refine zv_ald hB zd216_127 rfl rfl rfl ?_
              refine zv_getr hB zd216_128 rfl ?_
              refine zv_ald hB zd216_131 rfl rfl rfl ?_
              refine zv_getf hB zd216_132 rfl rfl (fun _ _ => ?_)
              refine zv_ald hB zd216_135 rfl rfl rfl ?_
              refine zv_getf hB zd216_136 rfl rfl (fun _ _ => ?_)
              refine zv_iast hB zd216_139 rfl rfl (zi_ix_ok c5).1 (zi_ix_ok c5).2 ?_
              refine zv_ald hB zd216_140 rfl rfl rfl ?_
              refine zv_ald hB zd216_141 rfl rfl rfl ?_
              refine zv_getf hB zd216_142 rfl rfl (fun _ _ => ?_)
              refine zv_con hB zd216_145 rfl ?_
              refine zv_addw hB zd216_146 ?_
              refine zv_putf hB zd216_147 rfl rfl (fun h => by cases h) rfl ?_
              refine zv_con hB zd216_150 rfl ?_
              have hw := Option.some.inj h
              subst hw
              exact hret _ _ _ _ _ zd216_151 (by constructor <;> decide) ⟨rfl, rfl, rfl⟩
            · rw [if_pos hc15] at h
              refine zv_con hB zd216_125 rfl ?_
              have hw := Option.some.inj h
              subst hw
              exact hret _ _ _ _ _ zd216_126 (by constructor <;> decide) ⟨rfl, rfl, rfl⟩
          · rw [if_pos hc13] at h
            refine zv_con hB zd216_103 rfl ?_
            have hw := Option.some.inj h
            subst hw
            exact hret _ _ _ _ _ zd216_104 (by constructor <;> decide) ⟨rfl, rfl, rfl⟩
    · rw [if_pos hc4] at h
      refine zv_ald hB zd216_31 rfl rfl rfl ?_
      refine zv_con hB zd216_32 rfl ?_
      refine zv_ald hB zd216_33 rfl rfl rfl ?_
      refine zv_getf hB zd216_34 rfl rfl (fun _ _ => ?_)
      obtain ⟨r16, hr16, h⟩ := zi_bind h
      refine zv_cv hB (zv_emq (va2 := [.inr 0, .inl 4, .inl f0]) (F := [.inl f0, .inl f1, .inl f2, .inl f3, .inl f4, .inl f5, .inl f6, .inl f7]) (F' := [.inl f0, .inl f1, .inl f2, .inl f3, .inl f4, .inl f5, .inl r16.2, .inl f7]) (G := [g0, g1, g2, g3, g4, g5, g6]) (G' := [g0, g1, g2, g3, g4, g5, g6]) (ρ := [0]) (φ := [6]) (ψ := []) [none, none, none, none, none, none, some 0, none] [none, none, none, none, none, none, none] zyw_M_wrongAt zyw_M_readsClause zye_M_readsClause (by decide +kernel) (zt_M_wrongAt hr16) ⟨⟨_, rfl, fun _ => rfl⟩, trivial⟩ trivial rfl rfl rfl rfl rfl rfl rfl) zd216_37 zxt219 rfl (by decide) (by decide) rfl ?_
      obtain ⟨c17, h⟩ := zi_if h
      have hw := Option.some.inj h
      subst hw
      exact hret _ _ _ _ _ zd216_40 (zi_bo_ok c17) ⟨rfl, rfl, rfl⟩
  · rw [if_pos hc3] at h
    refine zv_ald hB zd216_12 rfl rfl rfl ?_
    refine zv_con hB zd216_13 rfl ?_
    refine zv_ald hB zd216_14 rfl rfl rfl ?_
    refine zv_getf hB zd216_15 rfl rfl (fun _ _ => ?_)
    obtain ⟨r18, hr18, h⟩ := zi_bind h
    refine zv_cv hB (zv_emq (va2 := [.inr 0, .inl 1, .inl f0]) (F := [.inl f0, .inl f1, .inl f2, .inl f3, .inl f4, .inl f5, .inl f6, .inl f7]) (F' := [.inl f0, .inl f1, .inl f2, .inl f3, .inl f4, .inl f5, .inl r18.2, .inl f7]) (G := [g0, g1, g2, g3, g4, g5, g6]) (G' := [g0, g1, g2, g3, g4, g5, g6]) (ρ := [0]) (φ := [6]) (ψ := []) [none, none, none, none, none, none, some 0, none] [none, none, none, none, none, none, none] zyw_M_wrongAt zyw_M_readsClause zye_M_readsClause (by decide +kernel) (zt_M_wrongAt hr18) ⟨⟨_, rfl, fun _ => rfl⟩, trivial⟩ trivial rfl rfl rfl rfl rfl rfl rfl) zd216_18 zxt219 rfl (by decide) (by decide) rfl ?_
    obtain ⟨c19, h⟩ := zi_if h
    have hw := Option.some.inj h
    subst hw
    exact hret _ _ _ _ _ zd216_21 (zi_bo_ok c19) ⟨rfl, rfl, rfl⟩
/-! M_takes (I)Z -/
-- names: 0 StarTalesModel('arg', 0), 1 (1, 220)(0, 12, 3)
-- fields: f0 = 0.place0_, f1 = 0.length0_, f2 = 0.fault_; arrays: g0 = 1; out: [('ret', None), ('f', 0), ('f', 2)]
abbrev zy_M_takes : zNL := (2, [(0, 12)], [(0, 12, 5, 0), (0, 12, 6, 1), (0, 12, 7, 2)], [(0, 12, 3, 1)], [(1, 1, 220, 0)])
theorem zyw_M_takes : zv_wf zy_M_takes = true := by decide +kernel
theorem zye_M_takes : zv_ek2 zy_M_takes = true := by decide +kernel
def zf_M_takes (x1 : Int) (f0 : Int) (f1 : Int) (f2 : Int) (g0 : (Int → Int)) : Option (Int × Int × Int) := (zf_M_here f0 f1 g0).bind fun r1 => (if r1 = x1 then (some (1, (zi_w (f0 + 1)), f2)) else ((zf_M_wrongAt 1 f0 f2).bind fun r3 => (cond (zi_bo r3.1) (some (r3.1, f0, r3.2)) none)))
theorem zd236_0 : decode zxm236.2.1 0 = .ok (.aload_n 0, 1) := by decide +kernel
theorem zd236_1 : decode zxm236.2.1 1 = .ok (.invokevirtual 182, 3) := by decide +kernel
theorem zd236_4 : decode zxm236.2.1 4 = .ok (.iload_n 1, 1) := by decide +kernel
theorem zd236_5 : decode zxm236.2.1 5 = .ok (.if_icmp .eq 13, 3) := by decide +kernel
theorem zd236_8 : decode zxm236.2.1 8 = .ok (.aload_n 0, 1) := by decide +kernel
theorem zd236_9 : decode zxm236.2.1 9 = .ok (.iconst 1, 1) := by decide +kernel
theorem zd236_10 : decode zxm236.2.1 10 = .ok (.aload_n 0, 1) := by decide +kernel
theorem zd236_11 : decode zxm236.2.1 11 = .ok (.getfield 176, 3) := by decide +kernel
theorem zd236_14 : decode zxm236.2.1 14 = .ok (.invokevirtual 189, 3) := by decide +kernel
theorem zd236_17 : decode zxm236.2.1 17 = .ok (.ireturn, 1) := by decide +kernel
theorem zd236_18 : decode zxm236.2.1 18 = .ok (.aload_n 0, 1) := by decide +kernel
theorem zd236_19 : decode zxm236.2.1 19 = .ok (.aload_n 0, 1) := by decide +kernel
theorem zd236_20 : decode zxm236.2.1 20 = .ok (.getfield 176, 3) := by decide +kernel
theorem zd236_23 : decode zxm236.2.1 23 = .ok (.iconst 1, 1) := by decide +kernel
theorem zd236_24 : decode zxm236.2.1 24 = .ok (.iadd, 1) := by decide +kernel
theorem zd236_25 : decode zxm236.2.1 25 = .ok (.putfield 176, 3) := by decide +kernel
theorem zd236_28 : decode zxm236.2.1 28 = .ok (.iconst 1, 1) := by decide +kernel
theorem zd236_29 : decode zxm236.2.1 29 = .ok (.ireturn, 1) := by decide +kernel
theorem zt_M_takes {x1 : Int} {f0 : Int} {f1 : Int} {f2 : Int} {g0 : (Int → Int)} {o : Int × Int × Int} (h : zf_M_takes x1 f0 f1 f2 g0 = some o) : zv_Fn z_TB z_cl z_KX zy_M_takes zxm236 (1, 60) [.inr 0, .inl x1] [.inl f0, .inl f1, .inl f2] [g0] (some o.1) [.inl o.2.1, .inl f1, .inl o.2.2] [g0] := zv_meth (K := (z_KF13, z_KC13, z_KL13, z_KT13, [], [], [], none)) (FT := z_FT) (MT := z_MT) (n := 2) zxp236 (z_ks13 _ (fun _ h => List.mem_cons_of_mem _ h) _ _ _ _ (fun j r h _ => by cases h)) (fun _ _ => zs_KX_p) zyw_M_takes (fun va F G h => by obtain ⟨rfl, _⟩ := h; rfl) (fun va F G h => by obtain ⟨rfl, _⟩ := h; rfl) rfl fun good va F G hB hret hvret hP => by
  obtain ⟨rfl, rfl, rfl⟩ := hP
  unfold zf_M_takes at h
  refine zv_ald hB zd236_0 rfl rfl rfl ?_
  obtain ⟨r1, hr1, h⟩ := zi_bind h
  refine zv_cv hB (zv_emq (va2 := [.inr 0]) (F := [.inl f0, .inl f1, .inl f2]) (F' := [.inl f0, .inl f1, .inl f2]) (G := [g0]) (G' := [g0]) (ρ := [0, 1]) (φ := [0, 1]) (ψ := [0]) [some 0, some 1, none] [some 0] zyw_M_here zyw_M_takes zye_M_takes (by decide +kernel) (zt_M_here hr1) ⟨⟨_, rfl, fun _ => rfl⟩, ⟨_, rfl, fun _ => rfl⟩, trivial⟩ ⟨rfl, trivial⟩ rfl rfl rfl rfl rfl rfl rfl) zd236_1 zxt217 rfl (by decide) (by decide) rfl ?_
  refine zv_ild hB zd236_4 rfl rfl ?_
  refine zv_ceq hB zd236_5 rfl (fun hc2 => ?_) (fun hc2 => ?_)
  · rw [if_pos hc2] at h
    refine zv_ald hB zd236_18 rfl rfl rfl ?_
    refine zv_ald hB zd236_19 rfl rfl rfl ?_
    refine zv_getf hB zd236_20 rfl rfl (fun _ _ => ?_)
    refine zv_con hB zd236_23 rfl ?_
    refine zv_addw hB zd236_24 ?_
    refine zv_putf hB zd236_25 rfl rfl (fun h => by cases h) rfl ?_
    refine zv_con hB zd236_28 rfl ?_
    have hw := Option.some.inj h
    subst hw
    exact hret _ _ _ _ _ zd236_29 (by constructor <;> decide) ⟨rfl, rfl, rfl⟩
  · rw [if_neg hc2] at h
    refine zv_ald hB zd236_8 rfl rfl rfl ?_
    refine zv_con hB zd236_9 rfl ?_
    refine zv_ald hB zd236_10 rfl rfl rfl ?_
    refine zv_getf hB zd236_11 rfl rfl (fun _ _ => ?_)
    obtain ⟨r3, hr3, h⟩ := zi_bind h
    refine zv_cv hB (zv_emq (va2 := [.inr 0, .inl 1, .inl f0]) (F := [.inl f0, .inl f1, .inl f2]) (F' := [.inl f0, .inl f1, .inl r3.2]) (G := [g0]) (G' := [g0]) (ρ := [0]) (φ := [2]) (ψ := []) [none, none, some 0] [none] zyw_M_wrongAt zyw_M_takes zye_M_takes (by decide +kernel) (zt_M_wrongAt hr3) ⟨⟨_, rfl, fun _ => rfl⟩, trivial⟩ trivial rfl rfl rfl rfl rfl rfl rfl) zd236_14 zxt219 rfl (by decide) (by decide) rfl ?_
    obtain ⟨c4, h⟩ := zi_if h
    have hw := Option.some.inj h
    subst hw
    exact hret _ _ _ _ _ zd236_17 (zi_bo_ok c4) ⟨rfl, rfl, rfl⟩
