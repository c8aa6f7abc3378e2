/-! Methods as functions, and that they do what these do. -/
/-! M_steersFrom (II)I -/
-- names: 0 StarTalesModel('arg', 0), 1 (0, 422)(0, 12, 0), 2 (0, 14)(0, 12, 21), 3 (0, 13)(0, 12, 26), 4 (0, 14)(0, 12, 23), 5 (0, 14)(0, 12, 24), 6 (0, 220)(0, 12, 20), 7 (0, 220)(0, 12, 25)
-- fields: f0 = 0.clauses_; arrays: g0 = 1, g1 = 2, g2 = 3, g3 = 4, g4 = 5, g5 = 6, g6 = 7; out: [('ret', None), ('g', 2), ('g', 6)]
abbrev zy_M_steersFrom : zNL := (8, [(0, 12)], [(0, 12, 13, 0)], [(0, 12, 0, 1), (0, 12, 21, 2), (0, 12, 26, 3), (0, 12, 23, 4), (0, 12, 24, 5), (0, 12, 20, 6), (0, 12, 25, 7)], [(1, 0, 422, 0), (2, 0, 14, 1), (3, 0, 13, 2), (4, 0, 14, 3), (5, 0, 14, 4), (6, 0, 220, 5), (7, 0, 220, 6)])
theorem zyw_M_steersFrom : zv_wf zy_M_steersFrom = true := by decide +kernel
theorem zye_M_steersFrom : zv_ek2 zy_M_steersFrom = true := by decide +kernel
def zf_M_steersFrom (x1 : Int) (x2 : Int) (f0 : Int) (g0 : (Int → Int)) (g1 : (Int → Int)) (g2 : (Int → Int)) (g3 : (Int → Int)) (g4 : (Int → Int)) (g5 : (Int → Int)) (g6 : (Int → Int)) : Option (Int × (Int → Int) × (Int → Int)) := (zf_M_isSeen x1 x2 f0 g0 g1 g2 g3 g4 g5 g6).bind fun r1 => (if r1.1 = 0 then (some (x1, r1.2.1, r1.2.2)) else ((zf_M_standsAt x2 g0).bind fun r3 => ((zf_M_toRight (zi_rem x1 24) r3).bind fun r4 => (cond (zi_ix (zi_w (24 + x2)) 422) ((zf_M_size r4).bind fun r6 => ((zf_M_size (zi_w ((g0 (zi_w (24 + x2))) - (zi_div x1 24)))).bind fun r7 => (if r6 < r7 then ((zf_M_sign (zi_w ((g0 (zi_w (24 + x2))) - (zi_div x1 24)))).bind fun r9 => ((zf_M_isLand (zi_w (x1 + (zi_w (24 * r9)))) g0).bind fun r10 => (if r10 = 0 then (some ((zi_w (x1 + (zi_w (24 * r9)))), r1.2.1, r1.2.2)) else (some (x1, r1.2.1, r1.2.2))))) else ((zf_M_sign r4).bind fun r12 => ((zf_M_isLand (zi_w ((zi_w (24 * (zi_div x1 24))) + (zi_rem (zi_w ((zi_w ((zi_rem x1 24) + r12)) + 24)) 24))) g0).bind fun r13 => (if r13 = 0 then (some ((zi_w ((zi_w (24 * (zi_div x1 24))) + (zi_rem (zi_w ((zi_w ((zi_rem x1 24) + r12)) + 24)) 24))), r1.2.1, r1.2.2)) else (some (x1, r1.2.1, r1.2.2)))))))) none))))
theorem zd292_0 : decode zxm292.2.1 0 = .ok (.aload_n 0, 1) := by decide +kernel
theorem zd292_1 : decode zxm292.2.1 1 = .ok (.iload_n 1, 1) := by decide +kernel
theorem zd292_2 : decode zxm292.2.1 2 = .ok (.iload_n 2, 1) := by decide +kernel
theorem zd292_3 : decode zxm292.2.1 3 = .ok (.invokevirtual 297, 3) := by decide +kernel
theorem zd292_6 : decode zxm292.2.1 6 = .ok (.ifCond .ne 5, 3) := by decide +kernel
theorem zd292_9 : decode zxm292.2.1 9 = .ok (.iload_n 1, 1) := by decide +kernel
theorem zd292_10 : decode zxm292.2.1 10 = .ok (.ireturn, 1) := by decide +kernel
theorem zd292_11 : decode zxm292.2.1 11 = .ok (.iload_n 1, 1) := by decide +kernel
theorem zd292_12 : decode zxm292.2.1 12 = .ok (.bipush 24, 2) := by decide +kernel
theorem zd292_14 : decode zxm292.2.1 14 = .ok (.irem, 1) := by decide +kernel
theorem zd292_15 : decode zxm292.2.1 15 = .ok (.aload_n 0, 1) := by decide +kernel
theorem zd292_16 : decode zxm292.2.1 16 = .ok (.iload_n 2, 1) := by decide +kernel
theorem zd292_17 : decode zxm292.2.1 17 = .ok (.invokevirtual 281, 3) := by decide +kernel
theorem zd292_20 : decode zxm292.2.1 20 = .ok (.invokestatic 142, 3) := by decide +kernel
theorem zd292_23 : decode zxm292.2.1 23 = .ok (.istore_n 3, 1) := by decide +kernel
theorem zd292_24 : decode zxm292.2.1 24 = .ok (.aload_n 0, 1) := by decide +kernel
theorem zd292_25 : decode zxm292.2.1 25 = .ok (.getfield 7, 3) := by decide +kernel
theorem zd292_28 : decode zxm292.2.1 28 = .ok (.bipush 24, 2) := by decide +kernel
theorem zd292_30 : decode zxm292.2.1 30 = .ok (.iload_n 2, 1) := by decide +kernel
theorem zd292_31 : decode zxm292.2.1 31 = .ok (.iadd, 1) := by decide +kernel
theorem zd292_32 : decode zxm292.2.1 32 = .ok (.iaload, 1) := by decide +kernel
theorem zd292_33 : decode zxm292.2.1 33 = .ok (.iload_n 1, 1) := by decide +kernel
theorem zd292_34 : decode zxm292.2.1 34 = .ok (.bipush 24, 2) := by decide +kernel
theorem zd292_36 : decode zxm292.2.1 36 = .ok (.idiv, 1) := by decide +kernel
theorem zd292_37 : decode zxm292.2.1 37 = .ok (.isub, 1) := by decide +kernel
theorem zd292_38 : decode zxm292.2.1 38 = .ok (.istore 4, 2) := by decide +kernel
theorem zd292_40 : decode zxm292.2.1 40 = .ok (.iload_n 3, 1) := by decide +kernel
theorem zd292_41 : decode zxm292.2.1 41 = .ok (.invokestatic 146, 3) := by decide +kernel
theorem zd292_44 : decode zxm292.2.1 44 = .ok (.iload 4, 2) := by decide +kernel
theorem zd292_46 : decode zxm292.2.1 46 = .ok (.invokestatic 146, 3) := by decide +kernel
theorem zd292_49 : decode zxm292.2.1 49 = .ok (.if_icmp .lt 29, 3) := by decide +kernel
theorem zd292_52 : decode zxm292.2.1 52 = .ok (.bipush 24, 2) := by decide +kernel
theorem zd292_54 : decode zxm292.2.1 54 = .ok (.iload_n 1, 1) := by decide +kernel
theorem zd292_55 : decode zxm292.2.1 55 = .ok (.bipush 24, 2) := by decide +kernel
theorem zd292_57 : decode zxm292.2.1 57 = .ok (.idiv, 1) := by decide +kernel
theorem zd292_58 : decode zxm292.2.1 58 = .ok (.imul, 1) := by decide +kernel
theorem zd292_59 : decode zxm292.2.1 59 = .ok (.iload_n 1, 1) := by decide +kernel
theorem zd292_60 : decode zxm292.2.1 60 = .ok (.bipush 24, 2) := by decide +kernel
theorem zd292_62 : decode zxm292.2.1 62 = .ok (.irem, 1) := by decide +kernel
theorem zd292_63 : decode zxm292.2.1 63 = .ok (.iload_n 3, 1) := by decide +kernel
theorem zd292_64 : decode zxm292.2.1 64 = .ok (.invokestatic 418, 3) := by decide +kernel
theorem zd292_67 : decode zxm292.2.1 67 = .ok (.iadd, 1) := by decide +kernel
theorem zd292_68 : decode zxm292.2.1 68 = .ok (.bipush 24, 2) := by decide +kernel
theorem zd292_70 : decode zxm292.2.1 70 = .ok (.iadd, 1) := by decide +kernel
theorem zd292_71 : decode zxm292.2.1 71 = .ok (.bipush 24, 2) := by decide +kernel
theorem zd292_73 : decode zxm292.2.1 73 = .ok (.irem, 1) := by decide +kernel
theorem zd292_74 : decode zxm292.2.1 74 = .ok (.iadd, 1) := by decide +kernel
theorem zd292_75 : decode zxm292.2.1 75 = .ok (.goto 13, 3) := by decide +kernel
theorem zd292_78 : decode zxm292.2.1 78 = .ok (.iload_n 1, 1) := by decide +kernel
theorem zd292_79 : decode zxm292.2.1 79 = .ok (.bipush 24, 2) := by decide +kernel
theorem zd292_81 : decode zxm292.2.1 81 = .ok (.iload 4, 2) := by decide +kernel
theorem zd292_83 : decode zxm292.2.1 83 = .ok (.invokestatic 418, 3) := by decide +kernel
theorem zd292_86 : decode zxm292.2.1 86 = .ok (.imul, 1) := by decide +kernel
theorem zd292_87 : decode zxm292.2.1 87 = .ok (.iadd, 1) := by decide +kernel
theorem zd292_88 : decode zxm292.2.1 88 = .ok (.istore 5, 2) := by decide +kernel
theorem zd292_90 : decode zxm292.2.1 90 = .ok (.aload_n 0, 1) := by decide +kernel
theorem zd292_91 : decode zxm292.2.1 91 = .ok (.iload 5, 2) := by decide +kernel
theorem zd292_93 : decode zxm292.2.1 93 = .ok (.invokevirtual 165, 3) := by decide +kernel
theorem zd292_96 : decode zxm292.2.1 96 = .ok (.ifCond .eq 7, 3) := by decide +kernel
theorem zd292_99 : decode zxm292.2.1 99 = .ok (.iload_n 1, 1) := by decide +kernel
theorem zd292_100 : decode zxm292.2.1 100 = .ok (.goto 5, 3) := by decide +kernel
theorem zd292_103 : decode zxm292.2.1 103 = .ok (.iload 5, 2) := by decide +kernel
theorem zd292_105 : decode zxm292.2.1 105 = .ok (.ireturn, 1) := by decide +kernel
theorem zt_M_steersFrom {x1 : Int} {x2 : Int} {f0 : Int} {g0 : (Int → Int)} {g1 : (Int → Int)} {g2 : (Int → Int)} {g3 : (Int → Int)} {g4 : (Int → Int)} {g5 : (Int → Int)} {g6 : (Int → Int)} {o : Int × (Int → Int) × (Int → Int)} (h : zf_M_steersFrom x1 x2 f0 g0 g1 g2 g3 g4 g5 g6 = some o) : zv_Fn z_TB z_cl z_KX zy_M_steersFrom zxm292 (4, 240) [.inr 0, .inl x1, .inl x2] [.inl f0] [g0, g1, g2, g3, g4, g5, g6] (some o.1) [.inl f0] [g0, g1, o.2.1, g3, g4, g5, o.2.2] := zv_meth (K := (z_KF13, z_KC13, z_KL13, z_KT13, [], [], [], none)) (FT := z_FT) (MT := z_MT) (n := 3) zxp292 (z_ks13 _ (fun _ h => List.mem_cons_of_mem _ h) _ _ _ _ (fun j r h _ => by cases h)) (fun _ _ => zs_KX_p) zyw_M_steersFrom (fun va F G h => by obtain ⟨rfl, _⟩ := h; rfl) (fun va F G h => by obtain ⟨rfl, _⟩ := h; rfl) rfl fun good va F G hB hret hvret hP => by
  obtain ⟨rfl, rfl, rfl⟩ := hP
  unfold zf_M_steersFrom at h
  refine zv_ald hB zd292_0 rfl rfl rfl ?_
  refine zv_ild hB zd292_1 rfl rfl ?_
  refine zv_ild hB zd292_2 rfl rfl ?_
  obtain ⟨r1, hr1, h⟩ := zi_bind h
  refine zv_cv hB (zv_emq (va2 := [.inr 0, .inl x1, .inl x2]) (F := [.inl f0]) (F' := [.inl f0]) (G := [g0, g1, g2, g3, g4, g5, g6]) (G' := [g0, g1, r1.2.1, g3, g4, g5, r1.2.2]) (ρ := [0, 1, 2, 3, 4, 5, 6, 7]) (φ := [0]) (ψ := [0, 1, 2, 3, 4, 5, 6]) [some 0] [some 0, some 1, some 2, some 3, some 4, some 5, some 6] zyw_M_isSeen zyw_M_steersFrom zye_M_steersFrom (by decide +kernel) (zt_M_isSeen hr1) ⟨⟨_, rfl, fun _ => rfl⟩, trivial⟩ ⟨rfl, rfl, rfl, rfl, rfl, rfl, rfl, trivial⟩ rfl rfl rfl rfl rfl rfl rfl) zd292_3 zxt241 rfl (by decide) (by decide) rfl ?_
  refine zv_zne hB zd292_6 rfl (fun hc2 => ?_) (fun hc2 => ?_)
  · rw [if_neg hc2] at h
    refine zv_ild hB zd292_11 rfl rfl ?_
    refine zv_con hB zd292_12 rfl ?_
    refine zv_remw hB zd292_14 (by decide) ?_
    refine zv_ald hB zd292_15 rfl rfl rfl ?_
    refine zv_ild hB zd292_16 rfl rfl ?_
    obtain ⟨r3, hr3, h⟩ := zi_bind h
    refine zv_cv hB (zv_emq (va2 := [.inr 0, .inl x2]) (F := [.inl f0]) (F' := [.inl f0]) (G := [g0, g1, r1.2.1, g3, g4, g5, r1.2.2]) (G' := [g0, g1, r1.2.1, g3, g4, g5, r1.2.2]) (ρ := [0, 1]) (φ := []) (ψ := [0]) [none] [some 0, none, none, none, none, none, none] zyw_M_standsAt zyw_M_steersFrom zye_M_steersFrom (by decide +kernel) (zt_M_standsAt hr3) trivial ⟨rfl, trivial⟩ rfl rfl rfl rfl rfl rfl rfl) zd292_17 zxt238 rfl (by decide) (by decide) rfl ?_
    obtain ⟨r4, hr4, h⟩ := zi_bind h
    refine zv_cs hB (zv_emq (va2 := [.inl (zi_rem x1 24), .inl r3]) (F := [.inl f0]) (F' := [.inl f0]) (G := [g0, g1, r1.2.1, g3, g4, g5, r1.2.2]) (G' := [g0, g1, r1.2.1, g3, g4, g5, r1.2.2]) (ρ := []) (φ := []) (ψ := []) [none] [none, none, none, none, none, none, none] zyw_M_toRight zyw_M_steersFrom zye_M_steersFrom (by decide +kernel) (zt_M_toRight hr4) trivial trivial rfl rfl rfl rfl rfl rfl rfl) zd292_20 zxt242 rfl (by decide) (by decide) rfl ?_
    refine zv_ist hB zd292_23 rfl rfl rfl ?_
    refine zv_ald hB zd292_24 rfl rfl rfl ?_
    refine zv_getr hB zd292_25 rfl ?_
    refine zv_con hB zd292_28 rfl ?_
    refine zv_ild hB zd292_30 rfl rfl ?_
    refine zv_addw hB zd292_31 ?_
    obtain ⟨c5, h⟩ := zi_if h
    refine zv_iald hB zd292_32 rfl rfl (zi_ix_ok c5).1 (zi_ix_ok c5).2 (fun _ _ => ?_)
    refine zv_ild hB zd292_33 rfl rfl ?_
    refine zv_con hB zd292_34 rfl ?_
    refine zv_divw hB zd292_36 (by decide) ?_
    refine zv_subw hB zd292_37 ?_
    refine zv_ist hB zd292_38 rfl rfl rfl ?_
    refine zv_ild hB zd292_40 rfl rfl ?_
    obtain ⟨r6, hr6, h⟩ := zi_bind h
    refine zv_cs hB (zv_emq (va2 := [.inl r4]) (F := [.inl f0]) (F' := [.inl f0]) (G := [g0, g1, r1.2.1, g3, g4, g5, r1.2.2]) (G' := [g0, g1, r1.2.1, g3, g4, g5, r1.2.2]) (ρ := []) (φ := []) (ψ := []) [none] [none, none, none, none, none, none, none] zyw_M_size zyw_M_steersFrom zye_M_steersFrom (by decide +kernel) (zt_M_size hr6) trivial trivial rfl rfl rfl rfl rfl rfl rfl) zd292_41 zxt243 rfl (by decide) (by decide) rfl ?_
    refine zv_ild hB zd292_44 rfl rfl ?_
    obtain ⟨r7, hr7, h⟩ := zi_bind h
    refine zv_cs hB (zv_emq (va2 := [.inl (zi_w ((g0 (zi_w (24 + x2))) - (zi_div x1 24)))]) (F := [.inl f0]) (F' := [.inl f0]) (G := [g0, g1, r1.2.1, g3, g4, g5, r1.2.2]) (G' := [g0, g1, r1.2.1, g3, g4, g5, r1.2.2]) (ρ := []) (φ := []) (ψ := []) [none] [none, none, none, none, none, none, none] zyw_M_size zyw_M_steersFrom zye_M_steersFrom (by decide +kernel) (zt_M_size hr7) trivial trivial rfl rfl rfl rfl rfl rfl rfl) zd292_46 zxt243 rfl (by decide) (by decide) rfl ?_
    refine zv_clt hB zd292_49 rfl (fun hc8 => ?_) (fun hc8 => ?_)
    · rw [if_pos hc8] at h
      refine zv_ild hB zd292_78 rfl rfl ?_
      refine zv_con hB zd292_79 rfl ?_
      refine zv_ild hB zd292_81 rfl rfl ?_
      obtain ⟨r9, hr9, h⟩ := zi_bind h
      refine zv_cs hB (zv_emq (va2 := [.inl (zi_w ((g0 (zi_w (24 + x2))) - (zi_div x1 24)))]) (F := [.inl f0]) (F' := [.inl f0]) (G := [g0, g1, r1.2.1, g3, g4, g5, r1.2.2]) (G' := [g0, g1, r1.2.1, g3, g4, g5, r1.2.2]) (ρ := []) (φ := []) (ψ := []) [none] [none, none, none, none, none, none, none] zyw_M_sign zyw_M_steersFrom zye_M_steersFrom (by decide +kernel) (zt_M_sign hr9) trivial trivial rfl rfl rfl rfl rfl rfl rfl) zd292_83 zxt293 rfl (by decide) (by decide) rfl ?_
      refine zv_mulw hB zd292_86 ?_
      refine zv_addw hB zd292_87 ?_
      refine zv_ist hB zd292_88 rfl rfl rfl ?_
      refine zv_ald hB zd292_90 rfl rfl rfl ?_
      refine zv_ild hB zd292_91 rfl rfl ?_
      obtain ⟨r10, hr10, h⟩ := zi_bind h
      refine zv_cv hB (zv_emq (va2 := [.inr 0, .inl (zi_w (x1 + (zi_w (24 * r9))))]) (F := [.inl f0]) (F' := [.inl f0]) (G := [g0, g1, r1.2.1, g3, g4, g5, r1.2.2]) (G' := [g0, g1, r1.2.1, g3, g4, g5, r1.2.2]) (ρ := [0, 1]) (φ := []) (ψ := [0]) [none] [some 0, none, none, none, none, none, none] zyw_M_isLand zyw_M_steersFrom zye_M_steersFrom (by decide +kernel) (zt_M_isLand hr10) trivial ⟨rfl, trivial⟩ rfl rfl rfl rfl rfl rfl rfl) zd292_93 zxt212 rfl (by decide) (by decide) rfl ?_
      refine zv_zeq hB zd292_96 rfl (fun hc11 => ?_) (fun hc11 => ?_)
      · rw [if_pos hc11] at h
        refine zv_ild hB zd292_103 rfl rfl ?_
        have hw := Option.some.inj h
        subst hw
        exact hret _ _ _ _ _ zd292_105 (by trivial) ⟨rfl, rfl, rfl⟩
      · rw [if_neg hc11] at h
        refine zv_ild hB zd292_99 rfl rfl ?_
        refine zv_goto hB zd292_100 rfl ?_
        have hw := Option.some.inj h
        subst hw
        exact hret _ _ _ _ _ zd292_105 (by trivial) ⟨rfl, rfl, rfl⟩
    · rw [if_neg (Int.not_lt.mpr hc8)] at h
      refine zv_con hB zd292_52 rfl ?_
      refine zv_ild hB zd292_54 rfl rfl ?_
      refine zv_con hB zd292_55 rfl ?_
      refine zv_divw hB zd292_57 (by decide) ?_
      refine zv_mulw hB zd292_58 ?_
      refine zv_ild hB zd292_59 rfl rfl ?_
      refine zv_con hB zd292_60 rfl ?_
      refine zv_remw hB zd292_62 (by decide) ?_
      refine zv_ild hB zd292_63 rfl rfl ?_
      obtain ⟨r12, hr12, h⟩ := zi_bind h
      refine zv_cs hB (zv_emq (va2 := [.inl r4]) (F := [.inl f0]) (F' := [.inl f0]) (G := [g0, g1, r1.2.1, g3, g4, g5, r1.2.2]) (G' := [g0, g1, r1.2.1, g3, g4, g5, r1.2.2]) (ρ := []) (φ := []) (ψ := []) [none] [none, none, none, none, none, none, none] zyw_M_sign zyw_M_steersFrom zye_M_steersFrom (by decide +kernel) (zt_M_sign hr12) trivial trivial rfl rfl rfl rfl rfl rfl rfl) zd292_64 zxt293 rfl (by decide) (by decide) rfl ?_
      refine zv_addw hB zd292_67 ?_
      refine zv_con hB zd292_68 rfl ?_
      refine zv_addw hB zd292_70 ?_
      refine zv_con hB zd292_71 rfl ?_
      refine zv_remw hB zd292_73 (by decide) ?_
      refine zv_addw hB zd292_74 ?_
      refine zv_goto hB zd292_75 rfl ?_
      refine zv_ist hB zd292_88 rfl rfl rfl ?_
      refine zv_ald hB zd292_90 rfl rfl rfl ?_
      refine zv_ild hB zd292_91 rfl rfl ?_
      obtain ⟨r13, hr13, h⟩ := zi_bind h
      refine zv_cv hB (zv_emq (va2 := [.inr 0, .inl (zi_w ((zi_w (24 * (zi_div x1 24))) + (zi_rem (zi_w ((zi_w ((zi_rem x1 24) + r12)) + 24)) 24)))]) (F := [.inl f0]) (F' := [.inl f0]) (G := [g0, g1, r1.2.1, g3, g4, g5, r1.2.2]) (G' := [g0, g1, r1.2.1, g3, g4, g5, r1.2.2]) (ρ := [0, 1]) (φ := []) (ψ := [0]) [none] [some 0, none, none, none, none, none, none] zyw_M_isLand zyw_M_steersFrom zye_M_steersFrom (by decide +kernel) (zt_M_isLand hr13) trivial ⟨rfl, trivial⟩ rfl rfl rfl rfl rfl rfl rfl) zd292_93 zxt212 rfl (by decide) (by decide) rfl ?_
      refine zv_zeq hB zd292_96 rfl (fun hc14 => ?_) (fun hc14 => ?_)
      · rw [if_pos hc14] at h
        refine zv_ild hB zd292_103 rfl rfl ?_
        have hw := Option.some.inj h
        subst hw
        exact hret _ _ _ _ _ zd292_105 (by trivial) ⟨rfl, rfl, rfl⟩
      · rw [if_neg hc14] at h
        refine zv_ild hB zd292_99 rfl rfl ?_
        refine zv_goto hB zd292_100 rfl ?_
        have hw := Option.some.inj h
        subst hw
        exact hret _ _ _ _ _ zd292_105 (by trivial) ⟨rfl, rfl, rfl⟩
  · rw [if_pos hc2] at h
    refine zv_ild hB zd292_9 rfl rfl ?_
    have hw := Option.some.inj h
    subst hw
    exact hret _ _ _ _ _ zd292_10 (by trivial) ⟨rfl, rfl, rfl⟩
/-! M_held (II)I -/
-- names: 
-- fields: ; arrays: ; out: [('ret', None)]
abbrev zy_M_held : zNL := (0, [], [], [], [])
theorem zyw_M_held : zv_wf zy_M_held = true := by decide +kernel
theorem zye_M_held : zv_ek2 zy_M_held = true := by decide +kernel
def zf_M_held (x0 : Int) (x1 : Int) : Option (Int) := if x0 < 0 then (some 0) else (if x1 < x0 then (some x1) else (some x0))
theorem zd296_0 : decode zxm296.2.1 0 = .ok (.iload_n 0, 1) := by decide +kernel
theorem zd296_1 : decode zxm296.2.1 1 = .ok (.ifCond .ge 7, 3) := by decide +kernel
theorem zd296_4 : decode zxm296.2.1 4 = .ok (.iconst 0, 1) := by decide +kernel
theorem zd296_5 : decode zxm296.2.1 5 = .ok (.goto 13, 3) := by decide +kernel
theorem zd296_8 : decode zxm296.2.1 8 = .ok (.iload_n 0, 1) := by decide +kernel
theorem zd296_9 : decode zxm296.2.1 9 = .ok (.iload_n 1, 1) := by decide +kernel
theorem zd296_10 : decode zxm296.2.1 10 = .ok (.if_icmp .le 7, 3) := by decide +kernel
theorem zd296_13 : decode zxm296.2.1 13 = .ok (.iload_n 1, 1) := by decide +kernel
theorem zd296_14 : decode zxm296.2.1 14 = .ok (.goto 4, 3) := by decide +kernel
theorem zd296_17 : decode zxm296.2.1 17 = .ok (.iload_n 0, 1) := by decide +kernel
theorem zd296_18 : decode zxm296.2.1 18 = .ok (.ireturn, 1) := by decide +kernel
theorem zt_M_held {x0 : Int} {x1 : Int} {o : Int} (h : zf_M_held x0 x1 = some o) : zv_Fn z_TB z_cl z_KX zy_M_held zxm296 (0, 0) [.inl x0, .inl x1] [] [] (some o) [] [] := zv_meth (K := (z_KF13, z_KC13, z_KL13, z_KT13, [], [], [], none)) (FT := z_FT) (MT := z_MT) (n := 2) zxp296 (z_ks13 _ (fun _ h => List.mem_cons_of_mem _ h) _ _ _ _ (fun j r h _ => by cases h)) (fun _ _ => zs_KX_p) zyw_M_held (fun va F G h => by obtain ⟨rfl, _⟩ := h; rfl) (fun va F G h => by obtain ⟨rfl, _⟩ := h; rfl) rfl fun good va F G hB hret hvret hP => by
  obtain ⟨rfl, rfl, rfl⟩ := hP
  unfold zf_M_held at h
  refine zv_ild hB zd296_0 rfl rfl ?_
  refine zv_zge hB zd296_1 rfl (fun hc1 => ?_) (fun hc1 => ?_)
  · rw [if_neg (Int.not_lt.mpr hc1)] at h
    refine zv_ild hB zd296_8 rfl rfl ?_
    refine zv_ild hB zd296_9 rfl rfl ?_
    refine zv_cle hB zd296_10 rfl (fun hc2 => ?_) (fun hc2 => ?_)
    · rw [if_neg (Int.not_lt.mpr hc2)] at h
      refine zv_ild hB zd296_17 rfl rfl ?_
      have hw := Option.some.inj h
      subst hw
      exact hret _ _ _ _ _ zd296_18 (by trivial) ⟨rfl, rfl, rfl⟩
    · rw [if_pos hc2] at h
      refine zv_ild hB zd296_13 rfl rfl ?_
      refine zv_goto hB zd296_14 rfl ?_
      have hw := Option.some.inj h
      subst hw
      exact hret _ _ _ _ _ zd296_18 (by trivial) ⟨rfl, rfl, rfl⟩
  · rw [if_pos hc1] at h
    refine zv_con hB zd296_4 rfl ?_
    refine zv_goto hB zd296_5 rfl ?_
    have hw := Option.some.inj h
    subst hw
    exact hret _ _ _ _ _ zd296_18 (by trivial) ⟨rfl, rfl, rfl⟩
/-! M_walks ()V -/
-- names: 0 StarTalesModel('arg', 0), 1 (0, 422)(0, 12, 0)
-- fields: ; arrays: g0 = 1; out: [('g', 0)]
abbrev zy_M_walks : zNL := (2, [(0, 12)], [], [(0, 12, 0, 1)], [(1, 0, 422, 0)])
theorem zyw_M_walks : zv_wf zy_M_walks = true := by decide +kernel
theorem zye_M_walks : zv_ek2 zy_M_walks = true := by decide +kernel
def zf_M_walks_l0_b (rec : Int → (Int → Int) → Option ((Int → Int))) (x1 : Int) (g0 : (Int → Int)) : Option ((Int → Int)) := if x1 < 24 then ((zf_M_isTold x1 g0).bind fun r2 => (if r2 = 0 then (rec (zi_w (x1 + 1)) g0) else (cond (zi_ix (zi_w (0 + x1)) 422) (cond (zi_ix (zi_w (72 + x1)) 422) (cond (zi_ix (zi_w (24 + x1)) 422) (cond (zi_ix (zi_w (96 + x1)) 422) ((zf_M_held (zi_w (((zv_up g0 (zi_w (0 + x1)) (zi_rem (zi_w ((zi_w ((g0 (zi_w (0 + x1))) + (g0 (zi_w (72 + x1))))) + 24)) 24)) (zi_w (24 + x1))) + ((zv_up g0 (zi_w (0 + x1)) (zi_rem (zi_w ((zi_w ((g0 (zi_w (0 + x1))) + (g0 (zi_w (72 + x1))))) + 24)) 24)) (zi_w (96 + x1))))) 11).bind fun r8 => (rec (zi_w (x1 + 1)) (zv_up (zv_up g0 (zi_w (0 + x1)) (zi_rem (zi_w ((zi_w ((g0 (zi_w (0 + x1))) + (g0 (zi_w (72 + x1))))) + 24)) 24)) (zi_w (24 + x1)) r8))) none) none) none) none))) else (some g0)
def zf_M_walks_l0 : Nat → Int → (Int → Int) → Option ((Int → Int))
  | 0, _, _ => none
  | n + 1, x1, g0 => zf_M_walks_l0_b (zf_M_walks_l0 n) x1 g0
def zf_M_walks (g0 : (Int → Int)) : Option ((Int → Int)) := (zf_M_walks_l0 zi_fu 0 g0).bind fun q9 => (some q9)
theorem zd295_0 : decode zxm295.2.1 0 = .ok (.iconst 0, 1) := by decide +kernel
theorem zd295_1 : decode zxm295.2.1 1 = .ok (.istore_n 1, 1) := by decide +kernel
theorem zd295_2 : decode zxm295.2.1 2 = .ok (.iload_n 1, 1) := by decide +kernel
theorem zd295_3 : decode zxm295.2.1 3 = .ok (.bipush 24, 2) := by decide +kernel
theorem zd295_5 : decode zxm295.2.1 5 = .ok (.if_icmp .ge 85, 3) := by decide +kernel
theorem zd295_8 : decode zxm295.2.1 8 = .ok (.aload_n 0, 1) := by decide +kernel
theorem zd295_9 : decode zxm295.2.1 9 = .ok (.iload_n 1, 1) := by decide +kernel
theorem zd295_10 : decode zxm295.2.1 10 = .ok (.invokevirtual 157, 3) := by decide +kernel
theorem zd295_13 : decode zxm295.2.1 13 = .ok (.ifCond .ne 6, 3) := by decide +kernel
theorem zd295_16 : decode zxm295.2.1 16 = .ok (.goto 68, 3) := by decide +kernel
theorem zd295_19 : decode zxm295.2.1 19 = .ok (.aload_n 0, 1) := by decide +kernel
theorem zd295_20 : decode zxm295.2.1 20 = .ok (.getfield 7, 3) := by decide +kernel
theorem zd295_23 : decode zxm295.2.1 23 = .ok (.iconst 0, 1) := by decide +kernel
theorem zd295_24 : decode zxm295.2.1 24 = .ok (.iload_n 1, 1) := by decide +kernel
theorem zd295_25 : decode zxm295.2.1 25 = .ok (.iadd, 1) := by decide +kernel
theorem zd295_26 : decode zxm295.2.1 26 = .ok (.aload_n 0, 1) := by decide +kernel
theorem zd295_27 : decode zxm295.2.1 27 = .ok (.getfield 7, 3) := by decide +kernel
theorem zd295_30 : decode zxm295.2.1 30 = .ok (.iconst 0, 1) := by decide +kernel
theorem zd295_31 : decode zxm295.2.1 31 = .ok (.iload_n 1, 1) := by decide +kernel
theorem zd295_32 : decode zxm295.2.1 32 = .ok (.iadd, 1) := by decide +kernel
theorem zd295_33 : decode zxm295.2.1 33 = .ok (.iaload, 1) := by decide +kernel
theorem zd295_34 : decode zxm295.2.1 34 = .ok (.aload_n 0, 1) := by decide +kernel
theorem zd295_35 : decode zxm295.2.1 35 = .ok (.getfield 7, 3) := by decide +kernel
theorem zd295_38 : decode zxm295.2.1 38 = .ok (.bipush 72, 2) := by decide +kernel
theorem zd295_40 : decode zxm295.2.1 40 = .ok (.iload_n 1, 1) := by decide +kernel
theorem zd295_41 : decode zxm295.2.1 41 = .ok (.iadd, 1) := by decide +kernel
theorem zd295_42 : decode zxm295.2.1 42 = .ok (.iaload, 1) := by decide +kernel
theorem zd295_43 : decode zxm295.2.1 43 = .ok (.iadd, 1) := by decide +kernel
theorem zd295_44 : decode zxm295.2.1 44 = .ok (.bipush 24, 2) := by decide +kernel
theorem zd295_46 : decode zxm295.2.1 46 = .ok (.iadd, 1) := by decide +kernel
theorem zd295_47 : decode zxm295.2.1 47 = .ok (.bipush 24, 2) := by decide +kernel
theorem zd295_49 : decode zxm295.2.1 49 = .ok (.irem, 1) := by decide +kernel
theorem zd295_50 : decode zxm295.2.1 50 = .ok (.iastore, 1) := by decide +kernel
theorem zd295_51 : decode zxm295.2.1 51 = .ok (.aload_n 0, 1) := by decide +kernel
theorem zd295_52 : decode zxm295.2.1 52 = .ok (.getfield 7, 3) := by decide +kernel
theorem zd295_55 : decode zxm295.2.1 55 = .ok (.bipush 24, 2) := by decide +kernel
theorem zd295_57 : decode zxm295.2.1 57 = .ok (.iload_n 1, 1) := by decide +kernel
theorem zd295_58 : decode zxm295.2.1 58 = .ok (.iadd, 1) := by decide +kernel
theorem zd295_59 : decode zxm295.2.1 59 = .ok (.aload_n 0, 1) := by decide +kernel
theorem zd295_60 : decode zxm295.2.1 60 = .ok (.getfield 7, 3) := by decide +kernel
theorem zd295_63 : decode zxm295.2.1 63 = .ok (.bipush 24, 2) := by decide +kernel
theorem zd295_65 : decode zxm295.2.1 65 = .ok (.iload_n 1, 1) := by decide +kernel
theorem zd295_66 : decode zxm295.2.1 66 = .ok (.iadd, 1) := by decide +kernel
theorem zd295_67 : decode zxm295.2.1 67 = .ok (.iaload, 1) := by decide +kernel
theorem zd295_68 : decode zxm295.2.1 68 = .ok (.aload_n 0, 1) := by decide +kernel
theorem zd295_69 : decode zxm295.2.1 69 = .ok (.getfield 7, 3) := by decide +kernel
theorem zd295_72 : decode zxm295.2.1 72 = .ok (.bipush 96, 2) := by decide +kernel
theorem zd295_74 : decode zxm295.2.1 74 = .ok (.iload_n 1, 1) := by decide +kernel
theorem zd295_75 : decode zxm295.2.1 75 = .ok (.iadd, 1) := by decide +kernel
theorem zd295_76 : decode zxm295.2.1 76 = .ok (.iaload, 1) := by decide +kernel
theorem zd295_77 : decode zxm295.2.1 77 = .ok (.iadd, 1) := by decide +kernel
theorem zd295_78 : decode zxm295.2.1 78 = .ok (.bipush 11, 2) := by decide +kernel
theorem zd295_80 : decode zxm295.2.1 80 = .ok (.invokestatic 411, 3) := by decide +kernel
theorem zd295_83 : decode zxm295.2.1 83 = .ok (.iastore, 1) := by decide +kernel
theorem zd295_84 : decode zxm295.2.1 84 = .ok (.iinc 1 1, 3) := by decide +kernel
theorem zd295_87 : decode zxm295.2.1 87 = .ok (.goto (-85), 3) := by decide +kernel
theorem zd295_90 : decode zxm295.2.1 90 = .ok (.return_, 1) := by decide +kernel
theorem zt_M_walks {g0 : (Int → Int)} {o : (Int → Int)} (h : zf_M_walks g0 = some o) : zv_Fn z_TB z_cl z_KX zy_M_walks zxm295 (2, 120) [.inr 0] [] [g0] none [] [o] := zv_meth (K := (z_KF13, z_KC13, z_KL13, z_KT13, [], [], [], none)) (FT := z_FT) (MT := z_MT) (n := 1) zxp295 (z_ks13 _ (fun _ h => List.mem_cons_of_mem _ h) _ _ _ _ (fun j r h _ => by cases h)) (fun _ _ => zs_KX_p) zyw_M_walks (fun va F G h => by obtain ⟨rfl, _⟩ := h; rfl) (fun va F G h => by obtain ⟨rfl, _⟩ := h; rfl) rfl fun good va F G hB hret hvret hP => by
  obtain ⟨rfl, rfl, rfl⟩ := hP
  have l0 : ∀ (n : Nat) (x1 : Int) (g0 : (Int → Int)) (q : (Int → Int)), zf_M_walks_l0 n x1 g0 = some q → (good 90 [.inr 1000, .inr 1000] [] [] [q]) → good 2 [.inr 0, .inl x1] [] [] [g0] := by
    intro n
    induction n with
    | zero => intro x1 g0 q h; exact absurd (show none = some q from h) (fun h => by cases h)
    | succ n ih =>
      intro x1 g0 q h hK
      replace h : zf_M_walks_l0_b (zf_M_walks_l0 n) x1 g0 = some q := h
      unfold zf_M_walks_l0_b at h
      refine zv_ild hB zd295_2 rfl rfl ?_
      refine zv_con hB zd295_3 rfl ?_
      refine zv_cge hB zd295_5 rfl (fun hc1 => ?_) (fun hc1 => ?_)
      · rw [if_neg (Int.not_lt.mpr hc1)] at h
        have hq := Option.some.inj h
        subst hq
        refine zv_wk hB (L' := [.inr 1000, .inr 1000]) (F' := []) ⟨fun (h : zv_is (.inr 1000)) => (Nat.lt_irrefl 1000 h).elim, fun (h : zv_is (.inr 1000)) => (Nat.lt_irrefl 1000 h).elim, trivial⟩ trivial ?_
        exact hK
      · rw [if_pos hc1] at h
        refine zv_ald hB zd295_8 rfl rfl rfl ?_
        refine zv_ild hB zd295_9 rfl rfl ?_
        obtain ⟨r2, hr2, h⟩ := zi_bind h
        refine zv_cv hB (zv_emq (va2 := [.inr 0, .inl x1]) (F := []) (F' := []) (G := [g0]) (G' := [g0]) (ρ := [0, 1]) (φ := []) (ψ := [0]) [] [some 0] zyw_M_isTold zyw_M_walks zye_M_walks (by decide +kernel) (zt_M_isTold hr2) trivial ⟨rfl, trivial⟩ rfl rfl rfl rfl rfl rfl rfl) zd295_10 zxt203 rfl (by decide) (by decide) rfl ?_
        refine zv_zne hB zd295_13 rfl (fun hc3 => ?_) (fun hc3 => ?_)
        · rw [if_neg hc3] at h
          refine zv_ald hB zd295_19 rfl rfl rfl ?_
          refine zv_getr hB zd295_20 rfl ?_
          refine zv_con hB zd295_23 rfl ?_
          refine zv_ild hB zd295_24 rfl rfl ?_
          refine zv_addw hB zd295_25 ?_
          refine zv_ald hB zd295_26 rfl rfl rfl ?_
          refine zv_getr hB zd295_27 rfl ?_
          refine zv_con hB zd295_30 rfl ?_
          refine zv_ild hB zd295_31 rfl rfl ?_
          refine zv_addw hB zd295_32 ?_
          obtain ⟨c4, h⟩ := zi_if h
          refine zv_iald hB zd295_33 rfl rfl (zi_ix_ok c4).1 (zi_ix_ok c4).2 (fun _ _ => ?_)
          refine zv_ald hB zd295_34 rfl rfl rfl ?_
          refine zv_getr hB zd295_35 rfl ?_
          refine zv_con hB zd295_38 rfl ?_
          refine zv_ild hB zd295_40 rfl rfl ?_
          refine zv_addw hB zd295_41 ?_
          obtain ⟨c5, h⟩ := zi_if h
          refine zv_iald hB zd295_42 rfl rfl (zi_ix_ok c5).1 (zi_ix_ok c5).2 (fun _ _ => ?_)
          refine zv_addw hB zd295_43 ?_
          refine zv_con hB zd295_44 rfl ?_
          refine zv_addw hB zd295_46 ?_
          refine zv_con hB zd295_47 rfl ?_
          refine zv_remw hB zd295_49 (by decide) ?_
          refine zv_iast hB zd295_50 rfl rfl (zi_ix_ok c4).1 (zi_ix_ok c4).2 ?_
          refine zv_ald hB zd295_51 rfl rfl rfl ?_
          refine zv_getr hB zd295_52 rfl ?_
          refine zv_con hB zd295_55 rfl ?_
          refine zv_ild hB zd295_57 rfl rfl ?_
          refine zv_addw hB zd295_58 ?_
          refine zv_ald hB zd295_59 rfl rfl rfl ?_
          refine zv_getr hB zd295_60 rfl ?_
          refine zv_con hB zd295_63 rfl ?_
          refine zv_ild hB zd295_65 rfl rfl ?_
          refine zv_addw hB zd295_66 ?_
          obtain ⟨c6, h⟩ := zi_if h
          refine zv_iald hB zd295_67 rfl rfl (zi_ix_ok c6).1 (zi_ix_ok c6).2 (fun _ _ => ?_)
          refine zv_ald hB zd295_68 rfl rfl rfl ?_
          refine zv_getr hB zd295_69 rfl ?_
          refine zv_con hB zd295_72 rfl ?_
          refine zv_ild hB zd295_74 rfl rfl ?_
          refine zv_addw hB zd295_75 ?_
          obtain ⟨c7, h⟩ := zi_if h
          refine zv_iald hB zd295_76 rfl rfl (zi_ix_ok c7).1 (zi_ix_ok c7).2 (fun _ _ => ?_)
          refine zv_addw hB zd295_77 ?_
          refine zv_con hB zd295_78 rfl ?_
          obtain ⟨r8, hr8, h⟩ := zi_bind h
          refine zv_cs hB (zv_emq (va2 := [.inl (zi_w (((zv_up g0 (zi_w (0 + x1)) (zi_rem (zi_w ((zi_w ((g0 (zi_w (0 + x1))) + (g0 (zi_w (72 + x1))))) + 24)) 24)) (zi_w (24 + x1))) + ((zv_up g0 (zi_w (0 + x1)) (zi_rem (zi_w ((zi_w ((g0 (zi_w (0 + x1))) + (g0 (zi_w (72 + x1))))) + 24)) 24)) (zi_w (96 + x1))))), .inl 11]) (F := []) (F' := []) (G := [(zv_up g0 (zi_w (0 + x1)) (zi_rem (zi_w ((zi_w ((g0 (zi_w (0 + x1))) + (g0 (zi_w (72 + x1))))) + 24)) 24))]) (G' := [(zv_up g0 (zi_w (0 + x1)) (zi_rem (zi_w ((zi_w ((g0 (zi_w (0 + x1))) + (g0 (zi_w (72 + x1))))) + 24)) 24))]) (ρ := []) (φ := []) (ψ := []) [] [none] zyw_M_held zyw_M_walks zye_M_walks (by decide +kernel) (zt_M_held hr8) trivial trivial rfl rfl rfl rfl rfl rfl rfl) zd295_80 zxt296 rfl (by decide) (by decide) rfl ?_
          refine zv_iast hB zd295_83 rfl rfl (zi_ix_ok c6).1 (zi_ix_ok c6).2 ?_
          refine zv_iincw hB zd295_84 rfl rfl ?_
          refine zv_goto hB zd295_87 rfl ?_
          exact ih _ _ q h hK
        · rw [if_pos hc3] at h
          refine zv_goto hB zd295_16 rfl ?_
          refine zv_iincw hB zd295_84 rfl rfl ?_
          refine zv_goto hB zd295_87 rfl ?_
          exact ih _ _ q h hK
  unfold zf_M_walks at h
  refine zv_con hB zd295_0 rfl ?_
  refine zv_ist hB zd295_1 rfl rfl rfl ?_
  obtain ⟨q9, hq9, h⟩ := zi_bind h
  refine l0 _ _ _ q9 hq9 ?_
  show good 90 [.inr 1000, .inr 1000] [] [] [q9]
  have hw := Option.some.inj h
  subst hw
  exact hvret _ _ _ _ zd295_90 trivial ⟨rfl, rfl, rfl⟩
/-! M_passes ()V -/
-- names: 0 StarTalesModel('arg', 0), 1 (0, 422)(0, 12, 0)
-- fields: ; arrays: g0 = 1; out: [('g', 0)]
abbrev zy_M_passes : zNL := (2, [(0, 12)], [], [(0, 12, 0, 1)], [(1, 0, 422, 0)])
theorem zyw_M_passes : zv_wf zy_M_passes = true := by decide +kernel
theorem zye_M_passes : zv_ek2 zy_M_passes = true := by decide +kernel
def zf_M_passes (g0 : (Int → Int)) : Option ((Int → Int)) := if ((zv_up g0 128 (zi_w ((g0 128) + 1))) 128) < 24 then (some (zv_up g0 128 (zi_w ((g0 128) + 1)))) else ((zf_M_walks (zv_up (zv_up (zv_up g0 128 (zi_w ((g0 128) + 1))) 128 0) 129 (zi_w (((zv_up (zv_up g0 128 (zi_w ((g0 128) + 1))) 128 0) 129) + 1)))).bind fun r2 => (some r2))
theorem zd294_0 : decode zxm294.2.1 0 = .ok (.aload_n 0, 1) := by decide +kernel
theorem zd294_1 : decode zxm294.2.1 1 = .ok (.getfield 7, 3) := by decide +kernel
theorem zd294_4 : decode zxm294.2.1 4 = .ok (.sipush 128, 3) := by decide +kernel
theorem zd294_7 : decode zxm294.2.1 7 = .ok (.aload_n 0, 1) := by decide +kernel
theorem zd294_8 : decode zxm294.2.1 8 = .ok (.getfield 7, 3) := by decide +kernel
theorem zd294_11 : decode zxm294.2.1 11 = .ok (.sipush 128, 3) := by decide +kernel
theorem zd294_14 : decode zxm294.2.1 14 = .ok (.iaload, 1) := by decide +kernel
theorem zd294_15 : decode zxm294.2.1 15 = .ok (.iconst 1, 1) := by decide +kernel
theorem zd294_16 : decode zxm294.2.1 16 = .ok (.iadd, 1) := by decide +kernel
theorem zd294_17 : decode zxm294.2.1 17 = .ok (.iastore, 1) := by decide +kernel
theorem zd294_18 : decode zxm294.2.1 18 = .ok (.aload_n 0, 1) := by decide +kernel
theorem zd294_19 : decode zxm294.2.1 19 = .ok (.getfield 7, 3) := by decide +kernel
theorem zd294_22 : decode zxm294.2.1 22 = .ok (.sipush 128, 3) := by decide +kernel
theorem zd294_25 : decode zxm294.2.1 25 = .ok (.iaload, 1) := by decide +kernel
theorem zd294_26 : decode zxm294.2.1 26 = .ok (.bipush 24, 2) := by decide +kernel
theorem zd294_28 : decode zxm294.2.1 28 = .ok (.if_icmp .ge 4, 3) := by decide +kernel
theorem zd294_31 : decode zxm294.2.1 31 = .ok (.return_, 1) := by decide +kernel
theorem zd294_32 : decode zxm294.2.1 32 = .ok (.aload_n 0, 1) := by decide +kernel
theorem zd294_33 : decode zxm294.2.1 33 = .ok (.getfield 7, 3) := by decide +kernel
theorem zd294_36 : decode zxm294.2.1 36 = .ok (.sipush 128, 3) := by decide +kernel
theorem zd294_39 : decode zxm294.2.1 39 = .ok (.iconst 0, 1) := by decide +kernel
theorem zd294_40 : decode zxm294.2.1 40 = .ok (.iastore, 1) := by decide +kernel
theorem zd294_41 : decode zxm294.2.1 41 = .ok (.aload_n 0, 1) := by decide +kernel
theorem zd294_42 : decode zxm294.2.1 42 = .ok (.getfield 7, 3) := by decide +kernel
theorem zd294_45 : decode zxm294.2.1 45 = .ok (.sipush 129, 3) := by decide +kernel
theorem zd294_48 : decode zxm294.2.1 48 = .ok (.aload_n 0, 1) := by decide +kernel
theorem zd294_49 : decode zxm294.2.1 49 = .ok (.getfield 7, 3) := by decide +kernel
theorem zd294_52 : decode zxm294.2.1 52 = .ok (.sipush 129, 3) := by decide +kernel
theorem zd294_55 : decode zxm294.2.1 55 = .ok (.iaload, 1) := by decide +kernel
theorem zd294_56 : decode zxm294.2.1 56 = .ok (.iconst 1, 1) := by decide +kernel
theorem zd294_57 : decode zxm294.2.1 57 = .ok (.iadd, 1) := by decide +kernel
theorem zd294_58 : decode zxm294.2.1 58 = .ok (.iastore, 1) := by decide +kernel
theorem zd294_59 : decode zxm294.2.1 59 = .ok (.aload_n 0, 1) := by decide +kernel
theorem zd294_60 : decode zxm294.2.1 60 = .ok (.invokevirtual 414, 3) := by decide +kernel
theorem zd294_63 : decode zxm294.2.1 63 = .ok (.return_, 1) := by decide +kernel
theorem zt_M_passes {g0 : (Int → Int)} {o : (Int → Int)} (h : zf_M_passes g0 = some o) : zv_Fn z_TB z_cl z_KX zy_M_passes zxm294 (3, 180) [.inr 0] [] [g0] none [] [o] := zv_meth (K := (z_KF13, z_KC13, z_KL13, z_KT13, [], [], [], none)) (FT := z_FT) (MT := z_MT) (n := 1) zxp294 (z_ks13 _ (fun _ h => List.mem_cons_of_mem _ h) _ _ _ _ (fun j r h _ => by cases h)) (fun _ _ => zs_KX_p) zyw_M_passes (fun va F G h => by obtain ⟨rfl, _⟩ := h; rfl) (fun va F G h => by obtain ⟨rfl, _⟩ := h; rfl) rfl fun good va F G hB hret hvret hP => by
  obtain ⟨rfl, rfl, rfl⟩ := hP
  unfold zf_M_passes at h
  refine zv_ald hB zd294_0 rfl rfl rfl ?_
  refine zv_getr hB zd294_1 rfl ?_
  refine zv_con hB zd294_4 rfl ?_
  refine zv_ald hB zd294_7 rfl rfl rfl ?_
  refine zv_getr hB zd294_8 rfl ?_
  refine zv_con hB zd294_11 rfl ?_
  refine zv_iald hB zd294_14 rfl rfl (by decide) (by decide) (fun _ _ => ?_)
  refine zv_con hB zd294_15 rfl ?_
  refine zv_addw hB zd294_16 ?_
  refine zv_iast hB zd294_17 rfl rfl (by decide) (by decide) ?_
  refine zv_ald hB zd294_18 rfl rfl rfl ?_
  refine zv_getr hB zd294_19 rfl ?_
  refine zv_con hB zd294_22 rfl ?_
  refine zv_iald hB zd294_25 rfl rfl (by decide) (by decide) (fun _ _ => ?_)
  refine zv_con hB zd294_26 rfl ?_
  refine zv_cge hB zd294_28 rfl (fun hc1 => ?_) (fun hc1 => ?_)
  · rw [if_neg (Int.not_lt.mpr hc1)] at h
    refine zv_ald hB zd294_32 rfl rfl rfl ?_
    refine zv_getr hB zd294_33 rfl ?_
    refine zv_con hB zd294_36 rfl ?_
    refine zv_con hB zd294_39 rfl ?_
    refine zv_iast hB zd294_40 rfl rfl (by decide) (by decide) ?_
    refine zv_ald hB zd294_41 rfl rfl rfl ?_
    refine zv_getr hB zd294_42 rfl ?_
    refine zv_con hB zd294_45 rfl ?_
    refine zv_ald hB zd294_48 rfl rfl rfl ?_
    refine zv_getr hB zd294_49 rfl ?_
    refine zv_con hB zd294_52 rfl ?_
    refine zv_iald hB zd294_55 rfl rfl (by decide) (by decide) (fun _ _ => ?_)
    refine zv_con hB zd294_56 rfl ?_
    refine zv_addw hB zd294_57 ?_
    refine zv_iast hB zd294_58 rfl rfl (by decide) (by decide) ?_
    refine zv_ald hB zd294_59 rfl rfl rfl ?_
    obtain ⟨r2, hr2, h⟩ := zi_bind h
    refine zv_cv hB (zv_emq (va2 := [.inr 0]) (F := []) (F' := []) (G := [(zv_up (zv_up (zv_up g0 128 (zi_w ((g0 128) + 1))) 128 0) 129 (zi_w (((zv_up (zv_up g0 128 (zi_w ((g0 128) + 1))) 128 0) 129) + 1)))]) (G' := [r2]) (ρ := [0, 1]) (φ := []) (ψ := [0]) [] [some 0] zyw_M_walks zyw_M_passes zye_M_passes (by decide +kernel) (zt_M_walks hr2) trivial ⟨rfl, trivial⟩ rfl rfl rfl rfl rfl rfl rfl) zd294_60 zxt295 rfl (by decide) (by decide) rfl ?_
    have hw := Option.some.inj h
    subst hw
    exact hvret _ _ _ _ zd294_63 trivial ⟨rfl, rfl, rfl⟩
  · rw [if_pos hc1] at h
    have hw := Option.some.inj h
    subst hw
    exact hvret _ _ _ _ zd294_31 trivial ⟨rfl, rfl, rfl⟩
/-! M_drawsClouds ()V -/
-- names: 0 StarTalesModel('arg', 0), 1 (0, 422)(0, 12, 0), 2 (0, 13)(0, 12, 26), 3 (0, 14)(0, 12, 21), 4 (0, 14)(0, 12, 23), 5 (0, 14)(0, 12, 24), 6 (0, 220)(0, 12, 20), 7 (0, 220)(0, 12, 25), 8 (0, 14)(0, 12, 22)
-- fields: f0 = 0.clauses_; arrays: g0 = 1, g1 = 2, g2 = 3, g3 = 4, g4 = 5, g5 = 6, g6 = 7, g7 = 8; out: [('g', 0), ('g', 1), ('g', 6)]
abbrev zy_M_drawsClouds : zNL := (9, [(0, 12)], [(0, 12, 13, 0)], [(0, 12, 0, 1), (0, 12, 26, 2), (0, 12, 21, 3), (0, 12, 23, 4), (0, 12, 24, 5), (0, 12, 20, 6), (0, 12, 25, 7), (0, 12, 22, 8)], [(1, 0, 422, 0), (2, 0, 13, 1), (3, 0, 14, 2), (4, 0, 14, 3), (5, 0, 14, 4), (6, 0, 220, 5), (7, 0, 220, 6), (8, 0, 14, 7)])
theorem zyw_M_drawsClouds : zv_wf zy_M_drawsClouds = true := by decide +kernel
theorem zye_M_drawsClouds : zv_ek2 zy_M_drawsClouds = true := by decide +kernel
def zf_M_drawsClouds_l0_b (f0 : Int) (g2 : (Int → Int)) (g3 : (Int → Int)) (g4 : (Int → Int)) (g5 : (Int → Int)) (g7 : (Int → Int)) (rec : Int → (Int → Int) → (Int → Int) → (Int → Int) → Option ((Int → Int) × (Int → Int) × (Int → Int))) (x1 : Int) (g0 : (Int → Int)) (g1 : (Int → Int)) (g6 : (Int → Int)) : Option ((Int → Int) × (Int → Int) × (Int → Int)) := if x1 < 24 then ((zf_M_feels g1 (zv_up g0 133 (zi_rem (zi_w ((zi_w (25173 * (g0 133))) + 13849)) 65536))).bind fun r2 => ((zf_M_byLaw 113 10 f0 g2 g3 g4 g5 g6 (zv_up r2 5 x1) g7).bind fun r3 => (if (zi_rem ((zv_up g0 133 (zi_rem (zi_w ((zi_w (25173 * (g0 133))) + 13849)) 65536)) 133) 10) < r3.1 then (rec (zi_w (x1 + 1)) (zv_up (zv_up g0 133 (zi_rem (zi_w ((zi_w (25173 * (g0 133))) + 13849)) 65536)) 130 (zi_or ((zv_up g0 133 (zi_rem (zi_w ((zi_w (25173 * (g0 133))) + 13849)) 65536)) 130) (zi_shl 1 x1))) (zv_up r2 5 x1) r3.2) else (rec (zi_w (x1 + 1)) (zv_up g0 133 (zi_rem (zi_w ((zi_w (25173 * (g0 133))) + 13849)) 65536)) (zv_up r2 5 x1) r3.2)))) else (some (g0, g1, g6))
def zf_M_drawsClouds_l0 (f0 : Int) (g2 : (Int → Int)) (g3 : (Int → Int)) (g4 : (Int → Int)) (g5 : (Int → Int)) (g7 : (Int → Int)) : Nat → Int → (Int → Int) → (Int → Int) → (Int → Int) → Option ((Int → Int) × (Int → Int) × (Int → Int))
  | 0, _, _, _, _ => none
  | n + 1, x1, g0, g1, g6 => zf_M_drawsClouds_l0_b f0 g2 g3 g4 g5 g7 (zf_M_drawsClouds_l0 f0 g2 g3 g4 g5 g7 n) x1 g0 g1 g6
def zf_M_drawsClouds (f0 : Int) (g0 : (Int → Int)) (g1 : (Int → Int)) (g2 : (Int → Int)) (g3 : (Int → Int)) (g4 : (Int → Int)) (g5 : (Int → Int)) (g6 : (Int → Int)) (g7 : (Int → Int)) : Option ((Int → Int) × (Int → Int) × (Int → Int)) := (zf_M_drawsClouds_l0 f0 g2 g3 g4 g5 g7 zi_fu 0 (zv_up g0 130 0) g1 g6).bind fun q5 => (some (q5.1, q5.2.1, q5.2.2))
theorem zd291_0 : decode zxm291.2.1 0 = .ok (.aload_n 0, 1) := by decide +kernel
theorem zd291_1 : decode zxm291.2.1 1 = .ok (.getfield 7, 3) := by decide +kernel
theorem zd291_4 : decode zxm291.2.1 4 = .ok (.sipush 130, 3) := by decide +kernel
theorem zd291_7 : decode zxm291.2.1 7 = .ok (.iconst 0, 1) := by decide +kernel
theorem zd291_8 : decode zxm291.2.1 8 = .ok (.iastore, 1) := by decide +kernel
theorem zd291_9 : decode zxm291.2.1 9 = .ok (.iconst 0, 1) := by decide +kernel
theorem zd291_10 : decode zxm291.2.1 10 = .ok (.istore_n 1, 1) := by decide +kernel
theorem zd291_11 : decode zxm291.2.1 11 = .ok (.iload_n 1, 1) := by decide +kernel
theorem zd291_12 : decode zxm291.2.1 12 = .ok (.bipush 24, 2) := by decide +kernel
theorem zd291_14 : decode zxm291.2.1 14 = .ok (.if_icmp .ge 90, 3) := by decide +kernel
theorem zd291_17 : decode zxm291.2.1 17 = .ok (.aload_n 0, 1) := by decide +kernel
theorem zd291_18 : decode zxm291.2.1 18 = .ok (.getfield 7, 3) := by decide +kernel
theorem zd291_21 : decode zxm291.2.1 21 = .ok (.sipush 133, 3) := by decide +kernel
theorem zd291_24 : decode zxm291.2.1 24 = .ok (.sipush 25173, 3) := by decide +kernel
theorem zd291_27 : decode zxm291.2.1 27 = .ok (.aload_n 0, 1) := by decide +kernel
theorem zd291_28 : decode zxm291.2.1 28 = .ok (.getfield 7, 3) := by decide +kernel
theorem zd291_31 : decode zxm291.2.1 31 = .ok (.sipush 133, 3) := by decide +kernel
theorem zd291_34 : decode zxm291.2.1 34 = .ok (.iaload, 1) := by decide +kernel
theorem zd291_35 : decode zxm291.2.1 35 = .ok (.imul, 1) := by decide +kernel
theorem zd291_36 : decode zxm291.2.1 36 = .ok (.sipush 13849, 3) := by decide +kernel
theorem zd291_39 : decode zxm291.2.1 39 = .ok (.iadd, 1) := by decide +kernel
theorem zd291_40 : decode zxm291.2.1 40 = .ok (.ldc_w 417, 3) := by decide +kernel
theorem zd291_43 : decode zxm291.2.1 43 = .ok (.irem, 1) := by decide +kernel
theorem zd291_44 : decode zxm291.2.1 44 = .ok (.iastore, 1) := by decide +kernel
theorem zd291_45 : decode zxm291.2.1 45 = .ok (.aload_n 0, 1) := by decide +kernel
theorem zd291_46 : decode zxm291.2.1 46 = .ok (.invokevirtual 278, 3) := by decide +kernel
theorem zd291_49 : decode zxm291.2.1 49 = .ok (.aload_n 0, 1) := by decide +kernel
theorem zd291_50 : decode zxm291.2.1 50 = .ok (.getfield 59, 3) := by decide +kernel
theorem zd291_53 : decode zxm291.2.1 53 = .ok (.iconst 5, 1) := by decide +kernel
theorem zd291_54 : decode zxm291.2.1 54 = .ok (.iload_n 1, 1) := by decide +kernel
theorem zd291_55 : decode zxm291.2.1 55 = .ok (.iastore, 1) := by decide +kernel
theorem zd291_56 : decode zxm291.2.1 56 = .ok (.aload_n 0, 1) := by decide +kernel
theorem zd291_57 : decode zxm291.2.1 57 = .ok (.getfield 7, 3) := by decide +kernel
theorem zd291_60 : decode zxm291.2.1 60 = .ok (.sipush 133, 3) := by decide +kernel
theorem zd291_63 : decode zxm291.2.1 63 = .ok (.iaload, 1) := by decide +kernel
theorem zd291_64 : decode zxm291.2.1 64 = .ok (.bipush 10, 2) := by decide +kernel
theorem zd291_66 : decode zxm291.2.1 66 = .ok (.irem, 1) := by decide +kernel
theorem zd291_67 : decode zxm291.2.1 67 = .ok (.aload_n 0, 1) := by decide +kernel
theorem zd291_68 : decode zxm291.2.1 68 = .ok (.bipush 113, 2) := by decide +kernel
theorem zd291_70 : decode zxm291.2.1 70 = .ok (.bipush 10, 2) := by decide +kernel
theorem zd291_72 : decode zxm291.2.1 72 = .ok (.invokevirtual 408, 3) := by decide +kernel
theorem zd291_75 : decode zxm291.2.1 75 = .ok (.if_icmp .ge 23, 3) := by decide +kernel
theorem zd291_78 : decode zxm291.2.1 78 = .ok (.aload_n 0, 1) := by decide +kernel
theorem zd291_79 : decode zxm291.2.1 79 = .ok (.getfield 7, 3) := by decide +kernel
theorem zd291_82 : decode zxm291.2.1 82 = .ok (.sipush 130, 3) := by decide +kernel
theorem zd291_85 : decode zxm291.2.1 85 = .ok (.aload_n 0, 1) := by decide +kernel
theorem zd291_86 : decode zxm291.2.1 86 = .ok (.getfield 7, 3) := by decide +kernel
theorem zd291_89 : decode zxm291.2.1 89 = .ok (.sipush 130, 3) := by decide +kernel
theorem zd291_92 : decode zxm291.2.1 92 = .ok (.iaload, 1) := by decide +kernel
theorem zd291_93 : decode zxm291.2.1 93 = .ok (.iconst 1, 1) := by decide +kernel
theorem zd291_94 : decode zxm291.2.1 94 = .ok (.iload_n 1, 1) := by decide +kernel
theorem zd291_95 : decode zxm291.2.1 95 = .ok (.ishl, 1) := by decide +kernel
theorem zd291_96 : decode zxm291.2.1 96 = .ok (.ior, 1) := by decide +kernel
theorem zd291_97 : decode zxm291.2.1 97 = .ok (.iastore, 1) := by decide +kernel
theorem zd291_98 : decode zxm291.2.1 98 = .ok (.iinc 1 1, 3) := by decide +kernel
theorem zd291_101 : decode zxm291.2.1 101 = .ok (.goto (-90), 3) := by decide +kernel
theorem zd291_104 : decode zxm291.2.1 104 = .ok (.return_, 1) := by decide +kernel
theorem zt_M_drawsClouds {f0 : Int} {g0 : (Int → Int)} {g1 : (Int → Int)} {g2 : (Int → Int)} {g3 : (Int → Int)} {g4 : (Int → Int)} {g5 : (Int → Int)} {g6 : (Int → Int)} {g7 : (Int → Int)} {o : (Int → Int) × (Int → Int) × (Int → Int)} (h : zf_M_drawsClouds f0 g0 g1 g2 g3 g4 g5 g6 g7 = some o) : zv_Fn z_TB z_cl z_KX zy_M_drawsClouds zxm291 (3, 180) [.inr 0] [.inl f0] [g0, g1, g2, g3, g4, g5, g6, g7] none [.inl f0] [o.1, o.2.1, g2, g3, g4, g5, o.2.2, g7] := zv_meth (K := (z_KF13, z_KC13, z_KL13, z_KT13, [], [], [], none)) (FT := z_FT) (MT := z_MT) (n := 1) zxp291 (z_ks13 _ (fun _ h => List.mem_cons_of_mem _ h) _ _ _ _ (fun j r h _ => by cases h)) (fun _ _ => zs_KX_p) zyw_M_drawsClouds (fun va F G h => by obtain ⟨rfl, _⟩ := h; rfl) (fun va F G h => by obtain ⟨rfl, _⟩ := h; rfl) rfl fun good va F G hB hret hvret hP => by
  obtain ⟨rfl, rfl, rfl⟩ := hP
  have l0 : ∀ (n : Nat) (x1 : Int) (g0 : (Int → Int)) (g1 : (Int → Int)) (g6 : (Int → Int)) (q : (Int → Int) × (Int → Int) × (Int → Int)), zf_M_drawsClouds_l0 f0 g2 g3 g4 g5 g7 n x1 g0 g1 g6 = some q → (good 104 [.inr 1000, .inr 1000] [] [.inl f0] [q.1, q.2.1, g2, g3, g4, g5, q.2.2, g7]) → good 11 [.inr 0, .inl x1] [] [.inl f0] [g0, g1, g2, g3, g4, g5, g6, g7] := by
    intro n
    induction n with
    | zero => intro x1 g0 g1 g6 q h; exact absurd (show none = some q from h) (fun h => by cases h)
    | succ n ih =>
      intro x1 g0 g1 g6 q h hK
      replace h : zf_M_drawsClouds_l0_b f0 g2 g3 g4 g5 g7 (zf_M_drawsClouds_l0 f0 g2 g3 g4 g5 g7 n) x1 g0 g1 g6 = some q := h
      unfold zf_M_drawsClouds_l0_b at h
      refine zv_ild hB zd291_11 rfl rfl ?_
      refine zv_con hB zd291_12 rfl ?_
      refine zv_cge hB zd291_14 rfl (fun hc1 => ?_) (fun hc1 => ?_)
      · rw [if_neg (Int.not_lt.mpr hc1)] at h
        have hq := Option.some.inj h
        subst hq
        refine zv_wk hB (L' := [.inr 1000, .inr 1000]) (F' := [.inl f0]) ⟨fun (h : zv_is (.inr 1000)) => (Nat.lt_irrefl 1000 h).elim, fun (h : zv_is (.inr 1000)) => (Nat.lt_irrefl 1000 h).elim, trivial⟩ ⟨fun _ => rfl, trivial⟩ ?_
        exact hK
      · rw [if_pos hc1] at h
        refine zv_ald hB zd291_17 rfl rfl rfl ?_
        refine zv_getr hB zd291_18 rfl ?_
        refine zv_con hB zd291_21 rfl ?_
        refine zv_con hB zd291_24 rfl ?_
        refine zv_ald hB zd291_27 rfl rfl rfl ?_
        refine zv_getr hB zd291_28 rfl ?_
        refine zv_con hB zd291_31 rfl ?_
        refine zv_iald hB zd291_34 rfl rfl (by decide) (by decide) (fun _ _ => ?_)
        refine zv_mulw hB zd291_35 ?_
        refine zv_con hB zd291_36 rfl ?_
        refine zv_addw hB zd291_39 ?_
        refine zv_con (n := 65536) hB zd291_40 (by decide +kernel) ?_
        refine zv_remw hB zd291_43 (by decide) ?_
        refine zv_iast hB zd291_44 rfl rfl (by decide) (by decide) ?_
        refine zv_ald hB zd291_45 rfl rfl rfl ?_
        obtain ⟨r2, hr2, h⟩ := zi_bind h
        refine zv_cv hB (zv_emq (va2 := [.inr 0]) (F := [.inl f0]) (F' := [.inl f0]) (G := [(zv_up g0 133 (zi_rem (zi_w ((zi_w (25173 * (g0 133))) + 13849)) 65536)), g1, g2, g3, g4, g5, g6, g7]) (G' := [(zv_up g0 133 (zi_rem (zi_w ((zi_w (25173 * (g0 133))) + 13849)) 65536)), r2, g2, g3, g4, g5, g6, g7]) (ρ := [0, 2, 1]) (φ := []) (ψ := [1, 0]) [none] [some 1, some 0, none, none, none, none, none, none] zyw_M_feels zyw_M_drawsClouds zye_M_drawsClouds (by decide +kernel) (zt_M_feels hr2) trivial ⟨rfl, rfl, trivial⟩ rfl rfl rfl rfl rfl rfl rfl) zd291_46 zxt246 rfl (by decide) (by decide) rfl ?_
        refine zv_ald hB zd291_49 rfl rfl rfl ?_
        refine zv_getr hB zd291_50 rfl ?_
        refine zv_con hB zd291_53 rfl ?_
        refine zv_ild hB zd291_54 rfl rfl ?_
        refine zv_iast hB zd291_55 rfl rfl (by decide) (by decide) ?_
        refine zv_ald hB zd291_56 rfl rfl rfl ?_
        refine zv_getr hB zd291_57 rfl ?_
        refine zv_con hB zd291_60 rfl ?_
        refine zv_iald hB zd291_63 rfl rfl (by decide) (by decide) (fun _ _ => ?_)
        refine zv_con hB zd291_64 rfl ?_
        refine zv_remw hB zd291_66 (by decide) ?_
        refine zv_ald hB zd291_67 rfl rfl rfl ?_
        refine zv_con hB zd291_68 rfl ?_
        refine zv_con hB zd291_70 rfl ?_
        obtain ⟨r3, hr3, h⟩ := zi_bind h
        refine zv_cv hB (zv_emq (va2 := [.inr 0, .inl 113, .inl 10]) (F := [.inl f0]) (F' := [.inl f0]) (G := [(zv_up g0 133 (zi_rem (zi_w ((zi_w (25173 * (g0 133))) + 13849)) 65536)), (zv_up r2 5 x1), g2, g3, g4, g5, g6, g7]) (G' := [(zv_up g0 133 (zi_rem (zi_w ((zi_w (25173 * (g0 133))) + 13849)) 65536)), (zv_up r2 5 x1), g2, g3, g4, g5, r3.2, g7]) (ρ := [0, 3, 4, 5, 6, 7, 2, 8]) (φ := [0]) (ψ := [2, 3, 4, 5, 6, 1, 7]) [some 0] [none, some 5, some 0, some 1, some 2, some 3, some 4, some 6] zyw_M_byLaw zyw_M_drawsClouds zye_M_drawsClouds (by decide +kernel) (zt_M_byLaw hr3) ⟨⟨_, rfl, fun _ => rfl⟩, trivial⟩ ⟨rfl, rfl, rfl, rfl, rfl, rfl, rfl, trivial⟩ rfl rfl rfl rfl rfl rfl rfl) zd291_72 zxt288 rfl (by decide) (by decide) rfl ?_
        refine zv_cge hB zd291_75 rfl (fun hc4 => ?_) (fun hc4 => ?_)
        · rw [if_neg (Int.not_lt.mpr hc4)] at h
          refine zv_iincw hB zd291_98 rfl rfl ?_
          refine zv_goto hB zd291_101 rfl ?_
          exact ih _ _ _ _ q h hK
        · rw [if_pos hc4] at h
          refine zv_ald hB zd291_78 rfl rfl rfl ?_
          refine zv_getr hB zd291_79 rfl ?_
          refine zv_con hB zd291_82 rfl ?_
          refine zv_ald hB zd291_85 rfl rfl rfl ?_
          refine zv_getr hB zd291_86 rfl ?_
          refine zv_con hB zd291_89 rfl ?_
          refine zv_iald hB zd291_92 rfl rfl (by decide) (by decide) (fun _ _ => ?_)
          refine zv_con hB zd291_93 rfl ?_
          refine zv_ild hB zd291_94 rfl rfl ?_
          refine zv_shlw hB zd291_95 ?_
          refine zv_orw hB zd291_96 ?_
          refine zv_iast hB zd291_97 rfl rfl (by decide) (by decide) ?_
          refine zv_iincw hB zd291_98 rfl rfl ?_
          refine zv_goto hB zd291_101 rfl ?_
          exact ih _ _ _ _ q h hK
  unfold zf_M_drawsClouds at h
  refine zv_ald hB zd291_0 rfl rfl rfl ?_
  refine zv_getr hB zd291_1 rfl ?_
  refine zv_con hB zd291_4 rfl ?_
  refine zv_con hB zd291_7 rfl ?_
  refine zv_iast hB zd291_8 rfl rfl (by decide) (by decide) ?_
  refine zv_con hB zd291_9 rfl ?_
  refine zv_ist hB zd291_10 rfl rfl rfl ?_
  obtain ⟨q5, hq5, h⟩ := zi_bind h
  refine l0 _ _ _ _ _ q5 hq5 ?_
  show good 104 [.inr 1000, .inr 1000] [] [.inl f0] [q5.1, q5.2.1, g2, g3, g4, g5, q5.2.2, g7]
  have hw := Option.some.inj h
  subst hw
  exact hvret _ _ _ _ zd291_104 trivial ⟨rfl, rfl, rfl⟩
/-! M_steers (IIZ)V -/
-- names: 0 StarTalesModel('arg', 0), 1 (0, 422)(0, 12, 0), 2 (0, 14)(0, 12, 21), 3 (0, 13)(0, 12, 26), 4 (0, 14)(0, 12, 23), 5 (0, 14)(0, 12, 24), 6 (0, 220)(0, 12, 20), 7 (0, 220)(0, 12, 25), 8 (0, 14)(0, 12, 22)
-- fields: f0 = 0.clauses_; arrays: g0 = 1, g1 = 2, g2 = 3, g3 = 4, g4 = 5, g5 = 6, g6 = 7, g7 = 8; out: [('g', 0), ('g', 2), ('g', 6)]
abbrev zy_M_steers : zNL := (9, [(0, 12)], [(0, 12, 13, 0)], [(0, 12, 0, 1), (0, 12, 21, 2), (0, 12, 26, 3), (0, 12, 23, 4), (0, 12, 24, 5), (0, 12, 20, 6), (0, 12, 25, 7), (0, 12, 22, 8)], [(1, 0, 422, 0), (2, 0, 14, 1), (3, 0, 13, 2), (4, 0, 14, 3), (5, 0, 14, 4), (6, 0, 220, 5), (7, 0, 220, 6), (8, 0, 14, 7)])
theorem zyw_M_steers : zv_wf zy_M_steers = true := by decide +kernel
theorem zye_M_steers : zv_ek2 zy_M_steers = true := by decide +kernel
def zf_M_steers (x1 : Int) (x2 : Int) (x3 : Int) (f0 : Int) (g0 : (Int → Int)) (g1 : (Int → Int)) (g2 : (Int → Int)) (g3 : (Int → Int)) (g4 : (Int → Int)) (g5 : (Int → Int)) (g6 : (Int → Int)) (g7 : (Int → Int)) : Option ((Int → Int) × (Int → Int) × (Int → Int)) := if x3 = 0 then (cond (zi_ix (zi_w (120 + x1)) 422) ((zf_M_steersFrom (g0 (zi_w (120 + x1))) x2 f0 g0 g1 g2 g3 g4 g5 g6).bind fun r3 => ((zf_M_passes (zv_up g0 (zi_w (120 + x1)) r3.1)).bind fun r4 => (some (r4, r3.2.1, r3.2.2)))) none) else ((zf_M_drawsClouds f0 g0 g2 g1 g3 g4 g5 g6 g7).bind fun r5 => (cond (zi_ix (zi_w (120 + x1)) 422) ((zf_M_steersFrom (r5.1 (zi_w (120 + x1))) x2 f0 r5.1 g1 r5.2.1 g3 g4 g5 r5.2.2).bind fun r7 => ((zf_M_passes (zv_up r5.1 (zi_w (120 + x1)) r7.1)).bind fun r8 => (some (r8, r7.2.1, r7.2.2)))) none))
theorem zd290_0 : decode zxm290.2.1 0 = .ok (.iload_n 3, 1) := by decide +kernel
theorem zd290_1 : decode zxm290.2.1 1 = .ok (.ifCond .eq 7, 3) := by decide +kernel
theorem zd290_4 : decode zxm290.2.1 4 = .ok (.aload_n 0, 1) := by decide +kernel
theorem zd290_5 : decode zxm290.2.1 5 = .ok (.invokevirtual 421, 3) := by decide +kernel
theorem zd290_8 : decode zxm290.2.1 8 = .ok (.aload_n 0, 1) := by decide +kernel
theorem zd290_9 : decode zxm290.2.1 9 = .ok (.getfield 7, 3) := by decide +kernel
theorem zd290_12 : decode zxm290.2.1 12 = .ok (.bipush 120, 2) := by decide +kernel
theorem zd290_14 : decode zxm290.2.1 14 = .ok (.iload_n 1, 1) := by decide +kernel
theorem zd290_15 : decode zxm290.2.1 15 = .ok (.iadd, 1) := by decide +kernel
theorem zd290_16 : decode zxm290.2.1 16 = .ok (.aload_n 0, 1) := by decide +kernel
theorem zd290_17 : decode zxm290.2.1 17 = .ok (.aload_n 0, 1) := by decide +kernel
theorem zd290_18 : decode zxm290.2.1 18 = .ok (.getfield 7, 3) := by decide +kernel
theorem zd290_21 : decode zxm290.2.1 21 = .ok (.bipush 120, 2) := by decide +kernel
theorem zd290_23 : decode zxm290.2.1 23 = .ok (.iload_n 1, 1) := by decide +kernel
theorem zd290_24 : decode zxm290.2.1 24 = .ok (.iadd, 1) := by decide +kernel
theorem zd290_25 : decode zxm290.2.1 25 = .ok (.iaload, 1) := by decide +kernel
theorem zd290_26 : decode zxm290.2.1 26 = .ok (.iload_n 2, 1) := by decide +kernel
theorem zd290_27 : decode zxm290.2.1 27 = .ok (.invokevirtual 424, 3) := by decide +kernel
theorem zd290_30 : decode zxm290.2.1 30 = .ok (.iastore, 1) := by decide +kernel
theorem zd290_31 : decode zxm290.2.1 31 = .ok (.aload_n 0, 1) := by decide +kernel
theorem zd290_32 : decode zxm290.2.1 32 = .ok (.invokevirtual 427, 3) := by decide +kernel
theorem zd290_35 : decode zxm290.2.1 35 = .ok (.return_, 1) := by decide +kernel
theorem zt_M_steers {x1 : Int} {x2 : Int} {x3 : Int} {f0 : Int} {g0 : (Int → Int)} {g1 : (Int → Int)} {g2 : (Int → Int)} {g3 : (Int → Int)} {g4 : (Int → Int)} {g5 : (Int → Int)} {g6 : (Int → Int)} {g7 : (Int → Int)} {o : (Int → Int) × (Int → Int) × (Int → Int)} (h : zf_M_steers x1 x2 x3 f0 g0 g1 g2 g3 g4 g5 g6 g7 = some o) : zv_Fn z_TB z_cl z_KX zy_M_steers zxm290 (5, 300) [.inr 0, .inl x1, .inl x2, .inl x3] [.inl f0] [g0, g1, g2, g3, g4, g5, g6, g7] none [.inl f0] [o.1, g1, o.2.1, g3, g4, g5, o.2.2, g7] := zv_meth (K := (z_KF13, z_KC13, z_KL13, z_KT13, [], [], [], none)) (FT := z_FT) (MT := z_MT) (n := 4) zxp290 (z_ks13 _ (fun _ h => List.mem_cons_of_mem _ h) _ _ _ _ (fun j r h _ => by cases h)) (fun _ _ => zs_KX_p) zyw_M_steers (fun va F G h => by obtain ⟨rfl, _⟩ := h; rfl) (fun va F G h => by obtain ⟨rfl, _⟩ := h; rfl) rfl fun good va F G hB hret hvret hP => by
  obtain ⟨rfl, rfl, rfl⟩ := hP
  unfold zf_M_steers at h
  refine zv_ild hB zd290_0 rfl rfl ?_
  refine zv_zeq hB zd290_1 rfl (fun hc1 => ?_) (fun hc1 => ?_)
  · rw [if_pos hc1] at h
    refine zv_ald hB zd290_8 rfl rfl rfl ?_
    refine zv_getr hB zd290_9 rfl ?_
    refine zv_con hB zd290_12 rfl ?_
    refine zv_ild hB zd290_14 rfl rfl ?_
    refine zv_addw hB zd290_15 ?_
    refine zv_ald hB zd290_16 rfl rfl rfl ?_
    refine zv_ald hB zd290_17 rfl rfl rfl ?_
    refine zv_getr hB zd290_18 rfl ?_
    refine zv_con hB zd290_21 rfl ?_
    refine zv_ild hB zd290_23 rfl rfl ?_
    refine zv_addw hB zd290_24 ?_
    obtain ⟨c2, h⟩ := zi_if h
    refine zv_iald hB zd290_25 rfl rfl (zi_ix_ok c2).1 (zi_ix_ok c2).2 (fun _ _ => ?_)
    refine zv_ild hB zd290_26 rfl rfl ?_
    obtain ⟨r3, hr3, h⟩ := zi_bind h
    refine zv_cv hB (zv_emq (va2 := [.inr 0, .inl (g0 (zi_w (120 + x1))), .inl x2]) (F := [.inl f0]) (F' := [.inl f0]) (G := [g0, g1, g2, g3, g4, g5, g6, g7]) (G' := [g0, g1, r3.2.1, g3, g4, g5, r3.2.2, g7]) (ρ := [0, 1, 2, 3, 4, 5, 6, 7]) (φ := [0]) (ψ := [0, 1, 2, 3, 4, 5, 6]) [some 0] [some 0, some 1, some 2, some 3, some 4, some 5, some 6, none] zyw_M_steersFrom zyw_M_steers zye_M_steers (by decide +kernel) (zt_M_steersFrom hr3) ⟨⟨_, rfl, fun _ => rfl⟩, trivial⟩ ⟨rfl, rfl, rfl, rfl, rfl, rfl, rfl, trivial⟩ rfl rfl rfl rfl rfl rfl rfl) zd290_27 zxt292 rfl (by decide) (by decide) rfl ?_
    refine zv_iast hB zd290_30 rfl rfl (zi_ix_ok c2).1 (zi_ix_ok c2).2 ?_
    refine zv_ald hB zd290_31 rfl rfl rfl ?_
    obtain ⟨r4, hr4, h⟩ := zi_bind h
    refine zv_cv hB (zv_emq (va2 := [.inr 0]) (F := [.inl f0]) (F' := [.inl f0]) (G := [(zv_up g0 (zi_w (120 + x1)) r3.1), g1, r3.2.1, g3, g4, g5, r3.2.2, g7]) (G' := [r4, g1, r3.2.1, g3, g4, g5, r3.2.2, g7]) (ρ := [0, 1]) (φ := []) (ψ := [0]) [none] [some 0, none, none, none, none, none, none, none] zyw_M_passes zyw_M_steers zye_M_steers (by decide +kernel) (zt_M_passes hr4) trivial ⟨rfl, trivial⟩ rfl rfl rfl rfl rfl rfl rfl) zd290_32 zxt294 rfl (by decide) (by decide) rfl ?_
    have hw := Option.some.inj h
    subst hw
    exact hvret _ _ _ _ zd290_35 trivial ⟨rfl, rfl, rfl⟩
  · rw [if_neg hc1] at h
    refine zv_ald hB zd290_4 rfl rfl rfl ?_
    obtain ⟨r5, hr5, h⟩ := zi_bind h
    refine zv_cv hB (zv_emq (va2 := [.inr 0]) (F := [.inl f0]) (F' := [.inl f0]) (G := [g0, g1, g2, g3, g4, g5, g6, g7]) (G' := [r5.1, g1, r5.2.1, g3, g4, g5, r5.2.2, g7]) (ρ := [0, 1, 3, 2, 4, 5, 6, 7, 8]) (φ := [0]) (ψ := [0, 2, 1, 3, 4, 5, 6, 7]) [some 0] [some 0, some 2, some 1, some 3, some 4, some 5, some 6, some 7] zyw_M_drawsClouds zyw_M_steers zye_M_steers (by decide +kernel) (zt_M_drawsClouds hr5) ⟨⟨_, rfl, fun _ => rfl⟩, trivial⟩ ⟨rfl, rfl, rfl, rfl, rfl, rfl, rfl, rfl, trivial⟩ rfl rfl rfl rfl rfl rfl rfl) zd290_5 zxt291 rfl (by decide) (by decide) rfl ?_
    refine zv_ald hB zd290_8 rfl rfl rfl ?_
    refine zv_getr hB zd290_9 rfl ?_
    refine zv_con hB zd290_12 rfl ?_
    refine zv_ild hB zd290_14 rfl rfl ?_
    refine zv_addw hB zd290_15 ?_
    refine zv_ald hB zd290_16 rfl rfl rfl ?_
    refine zv_ald hB zd290_17 rfl rfl rfl ?_
    refine zv_getr hB zd290_18 rfl ?_
    refine zv_con hB zd290_21 rfl ?_
    refine zv_ild hB zd290_23 rfl rfl ?_
    refine zv_addw hB zd290_24 ?_
    obtain ⟨c6, h⟩ := zi_if h
    refine zv_iald hB zd290_25 rfl rfl (zi_ix_ok c6).1 (zi_ix_ok c6).2 (fun _ _ => ?_)
    refine zv_ild hB zd290_26 rfl rfl ?_
    obtain ⟨r7, hr7, h⟩ := zi_bind h
    refine zv_cv hB (zv_emq (va2 := [.inr 0, .inl (r5.1 (zi_w (120 + x1))), .inl x2]) (F := [.inl f0]) (F' := [.inl f0]) (G := [r5.1, g1, r5.2.1, g3, g4, g5, r5.2.2, g7]) (G' := [r5.1, g1, r7.2.1, g3, g4, g5, r7.2.2, g7]) (ρ := [0, 1, 2, 3, 4, 5, 6, 7]) (φ := [0]) (ψ := [0, 1, 2, 3, 4, 5, 6]) [some 0] [some 0, some 1, some 2, some 3, some 4, some 5, some 6, none] zyw_M_steersFrom zyw_M_steers zye_M_steers (by decide +kernel) (zt_M_steersFrom hr7) ⟨⟨_, rfl, fun _ => rfl⟩, trivial⟩ ⟨rfl, rfl, rfl, rfl, rfl, rfl, rfl, trivial⟩ rfl rfl rfl rfl rfl rfl rfl) zd290_27 zxt292 rfl (by decide) (by decide) rfl ?_
    refine zv_iast hB zd290_30 rfl rfl (zi_ix_ok c6).1 (zi_ix_ok c6).2 ?_
    refine zv_ald hB zd290_31 rfl rfl rfl ?_
    obtain ⟨r8, hr8, h⟩ := zi_bind h
    refine zv_cv hB (zv_emq (va2 := [.inr 0]) (F := [.inl f0]) (F' := [.inl f0]) (G := [(zv_up r5.1 (zi_w (120 + x1)) r7.1), g1, r7.2.1, g3, g4, g5, r7.2.2, g7]) (G' := [r8, g1, r7.2.1, g3, g4, g5, r7.2.2, g7]) (ρ := [0, 1]) (φ := []) (ψ := [0]) [none] [some 0, none, none, none, none, none, none, none] zyw_M_passes zyw_M_steers zye_M_steers (by decide +kernel) (zt_M_passes hr8) trivial ⟨rfl, trivial⟩ rfl rfl rfl rfl rfl rfl rfl) zd290_32 zxt294 rfl (by decide) (by decide) rfl ?_
    have hw := Option.some.inj h
    subst hw
    exact hvret _ _ _ _ zd290_35 trivial ⟨rfl, rfl, rfl⟩
