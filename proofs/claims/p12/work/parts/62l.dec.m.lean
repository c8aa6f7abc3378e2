/-! 62l.dec, 62m.dec -/
section
/-! Methods as functions, and that they do what these do. -/
/-! M_steersFrom (II)I -/
-- names: 0 StarTalesModel('arg', 0), 1 (0, 422)(0, 12, 0), 2 (0, 14)(0, 12, 21), 3 (0, 13)(0, 12, 26), 4 (0, 14)(0, 12, 23), 5 (0, 14)(0, 12, 24), 6 (0, 220)(0, 12, 20), 7 (0, 220)(0, 12, 25)
-- fields: f0 = 0.clauses_; arrays: g0 = 1, g1 = 2, g2 = 3, g3 = 4, g4 = 5, g5 = 6, g6 = 7; out: [('ret', None), ('g', 2), ('g', 6)]
abbrev zy_M_steersFrom : zNL := (8, [(0, 12)], [(0, 12, 13, 0)], [(0, 12, 0, 1), (0, 12, 21, 2), (0, 12, 26, 3), (0, 12, 23, 4), (0, 12, 24, 5), (0, 12, 20, 6), (0, 12, 25, 7)], [(1, 0, 422, 0), (2, 0, 14, 1), (3, 0, 13, 2), (4, 0, 14, 3), (5, 0, 14, 4), (6, 0, 220, 5), (7, 0, 220, 6)])
theorem zyw_M_steersFrom : zv_wf zy_M_steersFrom = true := by decide +kernel
theorem zye_M_steersFrom : zv_ek2 zy_M_steersFrom = true := by decide +kernel
def zf_M_steersFrom (x1 : Int) (x2 : Int) (f0 : Int) (g0 : (Int → Int)) (g1 : (Int → Int)) (g2 : (Int → Int)) (g3 : (Int → Int)) (g4 : (Int → Int)) (g5 : (Int → Int)) (g6 : (Int → Int)) : Option (Int × (Int → Int) × (Int → Int)) := (zf_M_isSeen x1 x2 f0 g0 g1 g2 g3 g4 g5 g6).bind fun r1 => (if r1.1 = 0 then (some (x1, r1.2.1, r1.2.2)) else ((zf_M_standsAt x2 g0).bind fun r3 => ((zf_M_toRight (zi_rem x1 24) r3).bind fun r4 => (cond (zi_ix (zi_w (24 + x2)) 422) ((zf_M_size r4).bind fun r6 => ((zf_M_size (zi_w ((g0 (zi_w (24 + x2))) - (zi_div x1 24)))).bind fun r7 => (if r6 < r7 then ((zf_M_sign (zi_w ((g0 (zi_w (24 + x2))) - (zi_div x1 24)))).bind fun r9 => ((zf_M_isLand (zi_w (x1 + (zi_w (24 * r9)))) g0).bind fun r10 => (if r10 = 0 then (some ((zi_w (x1 + (zi_w (24 * r9)))), r1.2.1, r1.2.2)) else (some (x1, r1.2.1, r1.2.2))))) else ((zf_M_sign r4).bind fun r12 => ((zf_M_isLand (zi_w ((zi_w (24 * (zi_div x1 24))) + (zi_rem (zi_w ((zi_w ((zi_rem x1 24) + r12)) + 24)) 24))) g0).bind fun r13 => (if r13 = 0 then (some ((zi_w ((zi_w (24 * (zi_div x1 24))) + (zi_rem (zi_w ((zi_w ((zi_rem x1 24) + r12)) + 24)) 24))), r1.2.1, r1.2.2)) else (some (x1, r1.2.1, r1.2.2)))))))) none))))
theorem zd292_0 : decode zxm292.2.1 0 = .ok (.aload_n 0, 1) := by decide +kernel
theorem zd292_1 : decode zxm292.2.1 1 = .ok (.iload_n 1, 1) := by decide +kernel
theorem zd292_2 : decode zxm292.2.1 2 = .ok (.iload_n 2, 1) := by decide +kernel
theorem zd292_3 : decode zxm292.2.1 3 = .ok (.invokevirtual 297, 3) := by decide +kernel
theorem zd292_6 : decode zxm292.2.1 6 = .ok (.ifCond .ne 5, 3) := by decide +kernel
theorem zd292_9 : decode zxm292.2.1 9 = .ok (.iload_n 1, 1) := by decide +kernel
theorem zd292_10 : decode zxm292.2.1 10 = .ok (.ireturn, 1) := by decide +kernel
theorem zd292_11 : decode zxm292.2.1 11 = .ok (.iload_n 1, 1) := by decide +kernel
theorem zd292_12 : decode zxm292.2.1 12 = .ok (.bipush 24, 2) := by decide +kernel
theorem zd292_14 : decode zxm292.2.1 14 = .ok (.irem, 1) := by decide +kernel
theorem zd292_15 : decode zxm292.2.1 15 = .ok (.aload_n 0, 1) := by decide +kernel
theorem zd292_16 : decode zxm292.2.1 16 = .ok (.iload_n 2, 1) := by decide +kernel
theorem zd292_17 : decode zxm292.2.1 17 = .ok (.invokevirtual 281, 3) := by decide +kernel
theorem zd292_20 : decode zxm292.2.1 20 = .ok (.invokestatic 142, 3) := by decide +kernel
theorem zd292_23 : decode zxm292.2.1 23 = .ok (.istore_n 3, 1) := by decide +kernel
theorem zd292_24 : decode zxm292.2.1 24 = .ok (.aload_n 0, 1) := by decide +kernel
theorem zd292_25 : decode zxm292.2.1 25 = .ok (.getfield 7, 3) := by decide +kernel
theorem zd292_28 : decode zxm292.2.1 28 = .ok (.bipush 24, 2) := by decide +kernel
theorem zd292_30 : decode zxm292.2.1 30 = .ok (.iload_n 2, 1) := by decide +kernel
theorem zd292_31 : decode zxm292.2.1 31 = .ok (.iadd, 1) := by decide +kernel
theorem zd292_32 : decode zxm292.2.1 32 = .ok (.iaload, 1) := by decide +kernel
theorem zd292_33 : decode zxm292.2.1 33 = .ok (.iload_n 1, 1) := by decide +kernel
theorem zd292_34 : decode zxm292.2.1 34 = .ok (.bipush 24, 2) := by decide +kernel
theorem zd292_36 : decode zxm292.2.1 36 = .ok (.idiv, 1) := by decide +kernel
theorem zd292_37 : decode zxm292.2.1 37 = .ok (.isub, 1) := by decide +kernel
theorem zd292_38 : decode zxm292.2.1 38 = .ok (.istore 4, 2) := by decide +kernel
theorem zd292_40 : decode zxm292.2.1 40 = .ok (.iload_n 3, 1) := by decide +kernel
theorem zd292_41 : decode zxm292.2.1 41 = .ok (.invokestatic 146, 3) := by decide +kernel
theorem zd292_44 : decode zxm292.2.1 44 = .ok (.iload 4, 2) := by decide +kernel
theorem zd292_46 : decode zxm292.2.1 46 = .ok (.invokestatic 146, 3) := by decide +kernel
theorem zd292_49 : decode zxm292.2.1 49 = .ok (.if_icmp .lt 29, 3) := by decide +kernel
theorem zd292_52 : decode zxm292.2.1 52 = .ok (.bipush 24, 2) := by decide +kernel
theorem zd292_54 : decode zxm292.2.1 54 = .ok (.iload_n 1, 1) := by decide +kernel
theorem zd292_55 : decode zxm292.2.1 55 = .ok (.bipush 24, 2) := by decide +kernel
theorem zd292_57 : decode zxm292.2.1 57 = .ok (.idiv, 1) := by decide +kernel
theorem zd292_58 : decode zxm292.2.1 58 = .ok (.imul, 1) := by decide +kernel
theorem zd292_59 : decode zxm292.2.1 59 = .ok (.iload_n 1, 1) := by decide +kernel
theorem zd292_60 : decode zxm292.2.1 60 = .ok (.bipush 24, 2) := by decide +kernel
theorem zd292_62 : decode zxm292.2.1 62 = .ok (.irem, 1) := by decide +kernel
theorem zd292_63 : decode zxm292.2.1 63 = .ok (.iload_n 3, 1) := by decide +kernel
theorem zd292_64 : decode zxm292.2.1 64 = .ok (.invokestatic 418, 3) := by decide +kernel
theorem zd292_67 : decode zxm292.2.1 67 = .ok (.iadd, 1) := by decide +kernel
theorem zd292_68 : decode zxm292.2.1 68 = .ok (.bipush 24, 2) := by decide +kernel
theorem zd292_70 : decode zxm292.2.1 70 = .ok (.iadd, 1) := by decide +kernel
theorem zd292_71 : decode zxm292.2.1 71 = .ok (.bipush 24, 2) := by decide +kernel
theorem zd292_73 : decode zxm292.2.1 73 = .ok (.irem, 1) := by decide +kernel
theorem zd292_74 : decode zxm292.2.1 74 = .ok (.iadd, 1) := by decide +kernel
theorem zd292_75 : decode zxm292.2.1 75 = .ok (.goto 13, 3) := by decide +kernel
theorem zd292_78 : decode zxm292.2.1 78 = .ok (.iload_n 1, 1) := by decide +kernel
theorem zd292_79 : decode zxm292.2.1 79 = .ok (.bipush 24, 2) := by decide +kernel
theorem zd292_81 : decode zxm292.2.1 81 = .ok (.iload 4, 2) := by decide +kernel
theorem zd292_83 : decode zxm292.2.1 83 = .ok (.invokestatic 418, 3) := by decide +kernel
theorem zd292_86 : decode zxm292.2.1 86 = .ok (.imul, 1) := by decide +kernel
theorem zd292_87 : decode zxm292.2.1 87 = .ok (.iadd, 1) := by decide +kernel
theorem zd292_88 : decode zxm292.2.1 88 = .ok (.istore 5, 2) := by decide +kernel
theorem zd292_90 : decode zxm292.2.1 90 = .ok (.aload_n 0, 1) := by decide +kernel
theorem zd292_91 : decode zxm292.2.1 91 = .ok (.iload 5, 2) := by decide +kernel
theorem zd292_93 : decode zxm292.2.1 93 = .ok (.invokevirtual 165, 3) := by decide +kernel
theorem zd292_96 : decode zxm292.2.1 96 = .ok (.ifCond .eq 7, 3) := by decide +kernel
theorem zd292_99 : decode zxm292.2.1 99 = .ok (.iload_n 1, 1) := by decide +kernel
theorem zd292_100 : decode zxm292.2.1 100 = .ok (.goto 5, 3) := by decide +kernel
theorem zd292_103 : decode zxm292.2.1 103 = .ok (.iload 5, 2) := by decide +kernel
theorem zd292_105 : decode zxm292.2.1 105 = .ok (.ireturn, 1) := by decide +kernel
theorem zt_M_steersFrom {x1 : Int} {x2 : Int} {f0 : Int} {g0 : (Int → Int)} {g1 : (Int → Int)} {g2 : (Int → Int)} {g3 : (Int → Int)} {g4 : (Int → Int)} {g5 : (Int → Int)} {g6 : (Int → Int)} {o : Int × (Int → Int) × (Int → Int)} (h : zf_M_steersFrom x1 x2 f0 g0 g1 g2 g3 g4 g5 g6 = some o) : zv_Fn z_TB z_cl z_KX zy_M_steersFrom zxm292 (4, 240) [.inr 0, .inl x1, .inl x2] [.inl f0] [g0, g1, g2, g3, g4, g5, g6] (some o.1) [.inl f0] [g0, g1, o.2.1, g3, g4, g5, o.2.2] := zv_meth (K := (z_KF13, z_KC13, z_KL13, z_KT13, [], [], [], none)) (FT := z_FT) (MT := z_MT) (n := 3) zxp292 (z_ks13 _ (fun _ h => List.mem_cons_of_mem _ h) _ _ _ _ (fun j r h _ => by cases h)) (fun _ _ => zs_KX_p) zyw_M_steersFrom (fun va F G h => by obtain ⟨rfl, _⟩ := h; rfl) (fun va F G h => by obtain ⟨rfl, _⟩ := h; rfl) rfl fun good va F G hB hret hvret hP => by
  obtain ⟨rfl, rfl, rfl⟩ := hP
  unfold zf_M_steersFrom at h
  refine zv_ald hB zd292_0 rfl rfl rfl ?_
  refine zv_ild hB zd292_1 rfl rfl ?_
  refine zv_ild hB zd292_2 rfl rfl ?_
  obtain ⟨r1, hr1, h⟩ := zi_bind h
  refine zv_cv hB (zv_emq (va2 := [.inr 0, .inl x1, .inl x2]) (F := [.inl f0]) (F' := [.inl f0]) (G := [g0, g1, g2, g3, g4, g5, g6]) (G' := [g0, g1, r1.2.1, g3, g4, g5, r1.2.2]) (ρ := [0, 1, 2, 3, 4, 5, 6, 7]) (φ := [0]) (ψ := [0, 1, 2, 3, 4, 5, 6]) [some 0] [some 0, some 1, some 2, some 3, some 4, some 5, some 6] zyw_M_isSeen zyw_M_steersFrom zye_M_steersFrom (by decide +kernel) (zt_M_isSeen hr1) ⟨⟨_, rfl, fun _ => rfl⟩, trivial⟩ ⟨rfl, rfl, rfl, rfl, rfl, rfl, rfl, trivial⟩ rfl rfl rfl rfl rfl rfl rfl) zd292_3 zxt241 rfl (by decide) (by decide) rfl ?_
  refine zv_zne hB zd292_6 rfl (fun hc2 => ?_) (fun hc2 => ?_)
  · rw [if_neg hc2] at h
    refine zv_ild hB zd292_11 rfl rfl ?_
    refine zv_con hB zd292_12 rfl ?_
    refine zv_remw hB zd292_14 (by decide) ?_
    refine zv_ald hB zd292_15 rfl rfl rfl ?_
    refine zv_ild hB zd292_16 rfl rfl ?_
    obtain ⟨r3, hr3, h⟩ := zi_bind h
    refine zv_cv hB (zv_emq (va2 := [.inr 0, .inl x2]) (F := [.inl f0]) (F' := [.inl f0]) (G := [g0, g1, r1.2.1, g3, g4, g5, r1.2.2]) (G' := [g0, g1, r1.2.1, g3, g4, g5, r1.2.2]) (ρ := [0, 1]) (φ := []) (ψ := [0]) [none] [some 0, none, none, none, none, none, none] zyw_M_standsAt zyw_M_steersFrom zye_M_steersFrom (by decide +kernel) (zt_M_standsAt hr3) trivial ⟨rfl, trivial⟩ rfl rfl rfl rfl rfl rfl rfl) zd292_17 zxt238 rfl (by decide) (by decide) rfl ?_
    obtain ⟨r4, hr4, h⟩ := zi_bind h
    refine zv_cs hB (zv_emq (va2 := [.inl (zi_rem x1 24), .inl r3]) (F := [.inl f0]) (F' := [.inl f0]) (G := [g0, g1, r1.2.1, g3, g4, g5, r1.2.2]) (G' := [g0, g1, r1.2.1, g3, g4, g5, r1.2.2]) (ρ := []) (φ := []) (ψ := []) [none] [none, none, none, none, none, none, none] zyw_M_toRight zyw_M_steersFrom zye_M_steersFrom (by decide +kernel) (zt_M_toRight hr4) trivial trivial rfl rfl rfl rfl rfl rfl rfl) zd292_20 zxt242 rfl (by decide) (by decide) rfl ?_
    refine zv_ist hB zd292_23 rfl rfl rfl ?_
    refine zv_ald hB zd292_24 rfl rfl rfl ?_
    refine zv_getr hB zd292_25 rfl ?_
    refine zv_con hB zd292_28 rfl ?_
    refine zv_ild hB zd292_30 rfl rfl ?_
    refine zv_addw hB zd292_31 ?_
    obtain ⟨c5, h⟩ := zi_if h
    refine zv_iald hB zd292_32 rfl rfl (zi_ix_ok c5).1 (zi_ix_ok c5).2 (fun _ _ => ?_)
    refine zv_ild hB zd292_33 rfl rfl ?_
    refine zv_con hB zd292_34 rfl ?_
    refine zv_divw hB zd292_36 (by decide) ?_
    refine zv_subw hB zd292_37 ?_
    refine zv_ist hB zd292_38 rfl rfl rfl ?_
    refine zv_ild hB zd292_40 rfl rfl ?_
    obtain ⟨r6, hr6, h⟩ := zi_bind h
    refine zv_cs hB (zv_emq (va2 := [.inl r4]) (F := [.inl f0]) (F' := [.inl f0]) (G := [g0, g1, r1.2.1, g3, g4, g5, r1.2.2]) (G' := [g0, g1, r1.2.1, g3, g4, g5, r1.2.2]) (ρ := []) (φ := []) (ψ := []) [none] [none, none, none, none, none, none, none] zyw_M_size zyw_M_steersFrom zye_M_steersFrom (by decide +kernel) (zt_M_size hr6) trivial trivial rfl rfl rfl rfl rfl rfl rfl) zd292_41 zxt243 rfl (by decide) (by decide) rfl ?_
    refine zv_ild hB zd292_44 rfl rfl ?_
    obtain ⟨r7, hr7, h⟩ := zi_bind h
    refine zv_cs hB (zv_emq (va2 := [.inl (zi_w ((g0 (zi_w (24 + x2))) - (zi_div x1 24)))]) (F := [.inl f0]) (F' := [.inl f0]) (G := [g0, g1, r1.2.1, g3, g4, g5, r1.2.2]) (G' := [g0, g1, r1.2.1, g3, g4, g5, r1.2.2]) (ρ := []) (φ := []) (ψ := []) [none] [none, none, none, none, none, none, none] zyw_M_size zyw_M_steersFrom zye_M_steersFrom (by decide +kernel) (zt_M_size hr7) trivial trivial rfl rfl rfl rfl rfl rfl rfl) zd292_46 zxt243 rfl (by decide) (by decide) rfl ?_
    refine zv_clt hB zd292_49 rfl (fun hc8 => ?_) (fun hc8 => ?_)
    · rw [if_pos hc8] at h
      refine zv_ild hB zd292_78 rfl rfl ?_
      refine zv_con hB zd292_79 rfl ?_
      refine zv_ild hB zd292_81 rfl rfl ?_
      obtain ⟨r9, hr9, h⟩ := zi_bind h
      refine zv_cs hB (zv_emq (va2 := [.inl (zi_w ((g0 (zi_w (24 + x2))) - (zi_div x1 24)))]) (F := [.inl f0]) (F' := [.inl f0]) (G := [g0, g1, r1.2.1, g3, g4, g5, r1.2.2]) (G' := [g0, g1, r1.2.1, g3, g4, g5, r1.2.2]) (ρ := []) (φ := []) (ψ := []) [none] [none, none, none, none, none, none, none] zyw_M_sign zyw_M_steersFrom zye_M_steersFrom (by decide +kernel) (zt_M_sign hr9) trivial trivial rfl rfl rfl rfl rfl rfl rfl) zd292_83 zxt293 rfl (by decide) (by decide) rfl ?_
      refine zv_mulw hB zd292_86 ?_
      refine zv_addw hB zd292_87 ?_
      refine zv_ist hB zd292_88 rfl rfl rfl ?_
      refine zv_ald hB zd292_90 rfl rfl rfl ?_
      refine zv_ild hB zd292_91 rfl rfl ?_
      obtain ⟨r10, hr10, h⟩ := zi_bind h
      refine zv_cv hB (zv_emq (va2 := [.inr 0, .inl (zi_w (x1 + (zi_w (24 * r9))))]) (F := [.inl f0]) (F' := [.inl f0]) (G := [g0, g1, r1.2.1, g3, g4, g5, r1.2.2]) (G' := [g0, g1, r1.2.1, g3, g4, g5, r1.2.2]) (ρ := [0, 1]) (φ := []) (ψ := [0]) [none] [some 0, none, none, none, none, none, none] zyw_M_isLand zyw_M_steersFrom zye_M_steersFrom (by decide +kernel) (zt_M_isLand hr10) trivial ⟨rfl, trivial⟩ rfl rfl rfl rfl rfl rfl rfl) zd292_93 zxt212 rfl (by decide) (by decide) rfl ?_
      refine zv_zeq hB zd292_96 rfl (fun hc11 => ?_) (fun hc11 => ?_)
      · rw [if_pos hc11] at h
        refine zv_ild hB zd292_103 rfl rfl ?_
        have hw := Option.some.inj h
        subst hw
        exact hret _ _ _ _ _ zd292_105 (by trivial) ⟨rfl, rfl, rfl⟩
      · rw [if_neg hc11] at h
        refine zv_ild hB zd292_99 rfl rfl ?_
        refine zv_goto hB zd292_100 rfl ?_
        have hw := Option.some.inj h
        subst hw
        exact hret _ _ _ _ _ zd292_105 (by trivial) ⟨rfl, rfl, rfl⟩
    · rw [if_neg (Int.not_lt.mpr hc8)] at h
      refine zv_con hB zd292_52 rfl ?_
      refine zv_ild hB zd292_54 rfl rfl ?_
      refine zv_con hB zd292_55 rfl ?_
      refine zv_divw hB zd292_57 (by decide) ?_
      refine zv_mulw hB zd292_58 ?_
      refine zv_ild hB zd292_59 rfl rfl ?_
      refine zv_con hB zd292_60 rfl ?_
      refine zv_remw hB zd292_62 (by decide) ?_
      refine zv_ild hB zd292_63 rfl rfl ?_
      obtain ⟨r12, hr12, h⟩ := zi_bind h
      refine zv_cs hB (zv_emq (va2 := [.inl r4]) (F := [.inl f0]) (F' := [.inl f0]) (G := [g0, g1, r1.2.1, g3, g4, g5, r1.2.2]) (G' := [g0, g1, r1.2.1, g3, g4, g5, r1.2.2]) (ρ := []) (φ := []) (ψ := []) [none] [none, none, none, none, none, none, none] zyw_M_sign zyw_M_steersFrom zye_M_steersFrom (by decide +kernel) (zt_M_sign hr12) trivial trivial rfl rfl rfl rfl rfl rfl rfl) zd292_64 zxt293 rfl (by decide) (by decide) rfl ?_
      refine zv_addw hB zd292_67 ?_
      refine zv_con hB zd292_68 rfl ?_
      refine zv_addw hB zd292_70 ?_
      refine zv_con hB zd292_71 rfl ?_
      refine zv_remw hB zd292_73 (by decide) ?_
      refine zv_addw hB zd292_74 ?_
      refine zv_goto hB zd292_75 rfl ?_
      refine zv_ist hB zd292_88 rfl rfl rfl ?_
      refine zv_ald hB zd292_90 rfl rfl rfl ?_
      refine zv_ild hB zd292_91 rfl rfl ?_
      obtain ⟨r13, hr13, h⟩ := zi_bind h
      refine zv_cv hB (zv_emq (va2 := [.inr 0, .inl (zi_w ((zi_w (24 * (zi_div x1 24))) + (zi_rem (zi_w ((zi_w ((zi_rem x1 24) + r12)) + 24)) 24)))]) (F := [.inl f0]) (F' := [.inl f0]) (G := [g0, g1, r1.2.1, g3, g4, g5, r1.2.2]) (G' := [g0, g1, r1.2.1, g3, g4, g5, r1.2.2]) (ρ := [0, 1]) (φ := []) (ψ := [0]) [none] [some 0, none, none, none, none, none, none] zyw_M_isLand zyw_M_steersFrom zye_M_steersFrom (by decide +kernel) (zt_M_isLand hr13) trivial ⟨rfl, trivial⟩ rfl rfl rfl rfl rfl rfl rfl) zd292_93 zxt212 rfl (by decide) (by decide) rfl ?_
      refine zv_zeq hB zd292_96 rfl (fun hc14 => ?_) (fun hc14 => ?_)
      · rw [if_pos hc14] at h
        refine zv_ild hB zd292_103 rfl rfl ?_
        have hw := Option.some.inj h
        subst hw
        exact hret _ _ _ _ _ zd292_105 (by trivial) ⟨rfl, rfl, rfl⟩
      · rw [if_neg hc14] at h
        refine zv_ild hB zd292_99 rfl rfl ?_
        refine zv_goto hB zd292_100 rfl ?_
        have hw := Option.some.inj h
        subst hw
        exact hret _ _ _ _ _ zd292_105 (by trivial) ⟨rfl, rfl, rfl⟩
  · rw [if_pos hc2] at h
    refine zv_ild hB zd292_9 rfl rfl ?_
    have hw := Option.some.inj h
    subst hw
    exact hret _ _ _ _ _ zd292_10 (by trivial) ⟨rfl, rfl, rfl⟩
/-! M_held (II)I -/
-- names: 
-- fields: ; arrays: ; out: [('ret', None)]
abbrev zy_M_held : zNL := (0, [], [], [], [])
theorem zyw_M_held : zv_wf zy_M_held = true := by decide +kernel
theorem zye_M_held : zv_ek2 zy_M_held = true := by decide +kernel
def zf_M_held (x0 : Int) (x1 : Int) : Option (Int) := if x0 < 0 then (some 0) else (if x1 < x0 then (some x1) else (some x0))
theorem zd296_0 : decode zxm296.2.1 0 = .ok (.iload_n 0, 1) := by decide +kernel
theorem zd296_1 : decode zxm296.2.1 1 = .ok (.ifCond .ge 7, 3) := by decide +kernel
theorem zd296_4 : decode zxm296.2.1 4 = .ok (.iconst 0, 1) := by decide +kernel
theorem zd296_5 : decode zxm296.2.1 5 = .ok (.goto 13, 3) := by decide +kernel
theorem zd296_8 : decode zxm296.2.1 8 = .ok (.iload_n 0, 1) := by decide +kernel
theorem zd296_9 : decode zxm296.2.1 9 = .ok (.iload_n 1, 1) := by decide +kernel
theorem zd296_10 : decode zxm296.2.1 10 = .ok (.if_icmp .le 7, 3) := by decide +kernel
theorem zd296_13 : decode zxm296.2.1 13 = .ok (.iload_n 1, 1) := by decide +kernel
theorem zd296_14 : decode zxm296.2.1 14 = .ok (.goto 4, 3) := by decide +kernel
theorem zd296_17 : decode zxm296.2.1 17 = .ok (.iload_n 0, 1) := by decide +kernel
theorem zd296_18 : decode zxm296.2.1 18 = .ok (.ireturn, 1) := by decide +kernel
theorem zt_M_held {x0 : Int} {x1 : Int} {o : Int} (h : zf_M_held x0 x1 = some o) : zv_Fn z_TB z_cl z_KX zy_M_held zxm296 (0, 0) [.inl x0, .inl x1] [] [] (some o) [] [] := zv_meth (K := (z_KF13, z_KC13, z_KL13, z_KT13, [], [], [], none)) (FT := z_FT) (MT := z_MT) (n := 2) zxp296 (z_ks13 _ (fun _ h => List.mem_cons_of_mem _ h) _ _ _ _ (fun j r h _ => by cases h)) (fun _ _ => zs_KX_p) zyw_M_held (fun va F G h => by obtain ⟨rfl, _⟩ := h; rfl) (fun va F G h => by obtain ⟨rfl, _⟩ := h; rfl) rfl fun good va F G hB hret hvret hP => by
  obtain ⟨rfl, rfl, rfl⟩ := hP
  unfold zf_M_held at h
  refine zv_ild hB zd296_0 rfl rfl ?_
  refine zv_zge hB zd296_1 rfl (fun hc1 => ?_) (fun hc1 => ?_)
  · rw [if_neg (Int.not_lt.mpr hc1)] at h
    refine zv_ild hB zd296_8 rfl rfl ?_
    refine zv_ild hB zd296_9 rfl rfl ?_
    refine zv_cle hB zd296_10 rfl (fun hc2 => ?_) (fun hc2 => ?_)
    · rw [if_neg (Int.not_lt.mpr hc2)] at h
      refine zv_ild hB zd296_17 rfl rfl ?_
      have hw := Option.some.inj h
      subst hw
      exact hret _ _ _ _ _ zd296_18 (by trivial) ⟨rfl, rfl, rfl⟩
    · rw [if_pos hc2] at h
      refine zv_ild hB zd296_13 rfl rfl ?_
      refine zv_goto hB zd296_14 rfl ?_
      have hw := Option.some.inj h
      subst hw
      exact hret _ _ _ _ _ zd296_18 (by trivial) ⟨rfl, rfl, rfl⟩
  · rw [if_pos hc1] at h
    refine zv_con hB zd296_4 rfl ?_
    refine zv_goto hB zd296_5 rfl ?_
    have hw := Option.some.inj h
    subst hw
    exact hret _ _ _ _ _ zd296_18 (by trivial) ⟨rfl, rfl, rfl⟩
/-! M_walks ()V -/
-- names: 0 StarTalesModel('arg', 0), 1 (0, 422)(0, 12, 0)
-- fields: ; arrays: g0 = 1; out: [('g', 0)]
abbrev zy_M_walks : zNL := (2, [(0, 12)], [], [(0, 12, 0, 1)], [(1, 0, 422, 0)])
theorem zyw_M_walks : zv_wf zy_M_walks = true := by decide +kernel
theorem zye_M_walks : zv_ek2 zy_M_walks = true := by decide +kernel
def zf_M_walks_l0_b (rec : Int → (Int → Int) → Option ((Int → Int))) (x1 : Int) (g0 : (Int → Int)) : Option ((Int → Int)) := if x1 < 24 then ((zf_M_isTold x1 g0).bind fun r2 => (if r2 = 0 then (rec (zi_w (x1 + 1)) g0) else (cond (zi_ix (zi_w (0 + x1)) 422) (cond (zi_ix (zi_w (72 + x1)) 422) (cond (zi_ix (zi_w (24 + x1)) 422) (cond (zi_ix (zi_w (96 + x1)) 422) ((zf_M_held (zi_w (((zv_up g0 (zi_w (0 + x1)) (zi_rem (zi_w ((zi_w ((g0 (zi_w (0 + x1))) + (g0 (zi_w (72 + x1))))) + 24)) 24)) (zi_w (24 + x1))) + ((zv_up g0 (zi_w (0 + x1)) (zi_rem (zi_w ((zi_w ((g0 (zi_w (0 + x1))) + (g0 (zi_w (72 + x1))))) + 24)) 24)) (zi_w (96 + x1))))) 11).bind fun r8 => (rec (zi_w (x1 + 1)) (zv_up (zv_up g0 (zi_w (0 + x1)) (zi_rem (zi_w ((zi_w ((g0 (zi_w (0 + x1))) + (g0 (zi_w (72 + x1))))) + 24)) 24)) (zi_w (24 + x1)) r8))) none) none) none) none))) else (some g0)
def zf_M_walks_l0 : Nat → Int → (Int → Int) → Option ((Int → Int))
  | 0, _, _ => none
  | n + 1, x1, g0 => zf_M_walks_l0_b (zf_M_walks_l0 n) x1 g0
def zf_M_walks (g0 : (Int → Int)) : Option ((Int → Int)) := (zf_M_walks_l0 zi_fu 0 g0).bind fun q9 => (some q9)
theorem zd295_0 : decode zxm295.2.1 0 = .ok (.iconst 0, 1) := by decide +kernel
theorem zd295_1 : decode zxm295.2.1 1 = .ok (.istore_n 1, 1) := by decide +kernel
theorem zd295_2 : decode zxm295.2.1 2 = .ok (.iload_n 1, 1) := by decide +kernel
theorem zd295_3 : decode zxm295.2.1 3 = .ok (.bipush 24, 2) := by decide +kernel
theorem zd295_5 : decode zxm295.2.1 5 = .ok (.if_icmp .ge 85, 3) := by decide +kernel
theorem zd295_8 : decode zxm295.2.1 8 = .ok (.aload_n 0, 1) := by decide +kernel
theorem zd295_9 : decode zxm295.2.1 9 = .ok (.iload_n 1, 1) := by decide +kernel
theorem zd295_10 : decode zxm295.2.1 10 = .ok (.invokevirtual 157, 3) := by decide +kernel
theorem zd295_13 : decode zxm295.2.1 13 = .ok (.ifCond .ne 6, 3) := by decide +kernel
theorem zd295_16 : decode zxm295.2.1 16 = .ok (.goto 68, 3) := by decide +kernel
theorem zd295_19 : decode zxm295.2.1 19 = .ok (.aload_n 0, 1) := by decide +kernel
theorem zd295_20 : decode zxm295.2.1 20 = .ok (.getfield 7, 3) := by decide +kernel
theorem zd295_23 : decode zxm295.2.1 23 = .ok (.iconst 0, 1) := by decide +kernel
theorem zd295_24 : decode zxm295.2.1 24 = .ok (.iload_n 1, 1) := by decide +kernel
theorem zd295_25 : decode zxm295.2.1 25 = .ok (.iadd, 1) := by decide +kernel
theorem zd295_26 : decode zxm295.2.1 26 = .ok (.aload_n 0, 1) := by decide +kernel
theorem zd295_27 : decode zxm295.2.1 27 = .ok (.getfield 7, 3) := by decide +kernel
theorem zd295_30 : decode zxm295.2.1 30 = .ok (.iconst 0, 1) := by decide +kernel
theorem zd295_31 : decode zxm295.2.1 31 = .ok (.iload_n 1, 1) := by decide +kernel
theorem zd295_32 : decode zxm295.2.1 32 = .ok (.iadd, 1) := by decide +kernel
theorem zd295_33 : decode zxm295.2.1 33 = .ok (.iaload, 1) := by decide +kernel
theorem zd295_34 : decode zxm295.2.1 34 = .ok (.aload_n 0, 1) := by decide +kernel
theorem zd295_35 : decode zxm295.2.1 35 = .ok (.getfield 7, 3) := by decide +kernel
theorem zd295_38 : decode zxm295.2.1 38 = .ok (.bipush 72, 2) := by decide +kernel
theorem zd295_40 : decode zxm295.2.1 40 = .ok (.iload_n 1, 1) := by decide +kernel
theorem zd295_41 : decode zxm295.2.1 41 = .ok (.iadd, 1) := by decide +kernel
theorem zd295_42 : decode zxm295.2.1 42 = .ok (.iaload, 1) := by decide +kernel
theorem zd295_43 : decode zxm295.2.1 43 = .ok (.iadd, 1) := by decide +kernel
theorem zd295_44 : decode zxm295.2.1 44 = .ok (.bipush 24, 2) := by decide +kernel
theorem zd295_46 : decode zxm295.2.1 46 = .ok (.iadd, 1) := by decide +kernel
theorem zd295_47 : decode zxm295.2.1 47 = .ok (.bipush 24, 2) := by decide +kernel
theorem zd295_49 : decode zxm295.2.1 49 = .ok (.irem, 1) := by decide +kernel
theorem zd295_50 : decode zxm295.2.1 50 = .ok (.iastore, 1) := by decide +kernel
theorem zd295_51 : decode zxm295.2.1 51 = .ok (.aload_n 0, 1) := by decide +kernel
theorem zd295_52 : decode zxm295.2.1 52 = .ok (.getfield 7, 3) := by decide +kernel
theorem zd295_55 : decode zxm295.2.1 55 = .ok (.bipush 24, 2) := by decide +kernel
theorem zd295_57 : decode zxm295.2.1 57 = .ok (.iload_n 1, 1) := by decide +kernel
theorem zd295_58 : decode zxm295.2.1 58 = .ok (.iadd, 1) := by decide +kernel
theorem zd295_59 : decode zxm295.2.1 59 = .ok (.aload_n 0, 1) := by decide +kernel
theorem zd295_60 : decode zxm295.2.1 60 = .ok (.getfield 7, 3) := by decide +kernel
theorem zd295_63 : decode zxm295.2.1 63 = .ok (.bipush 24, 2) := by decide +kernel
theorem zd295_65 : decode zxm295.2.1 65 = .ok (.iload_n 1, 1) := by decide +kernel
theorem zd295_66 : decode zxm295.2.1 66 = .ok (.iadd, 1) := by decide +kernel
theorem zd295_67 : decode zxm295.2.1 67 = .ok (.iaload, 1) := by decide +kernel
theorem zd295_68 : decode zxm295.2.1 68 = .ok (.aload_n 0, 1) := by decide +kernel
theorem zd295_69 : decode zxm295.2.1 69 = .ok (.getfield 7, 3) := by decide +kernel
theorem zd295_72 : decode zxm295.2.1 72 = .ok (.bipush 96, 2) := by decide +kernel
theorem zd295_74 : decode zxm295.2.1 74 = .ok (.iload_n 1, 1) := by decide +kernel
theorem zd295_75 : decode zxm295.2.1 75 = .ok (.iadd, 1) := by decide +kernel
theorem zd295_76 : decode zxm295.2.1 76 = .ok (.iaload, 1) := by decide +kernel
theorem zd295_77 : decode zxm295.2.1 77 = .ok (.iadd, 1) := by decide +kernel
theorem zd295_78 : decode zxm295.2.1 78 = .ok (.bipush 11, 2) := by decide +kernel
theorem zd295_80 : decode zxm295.2.1 80 = .ok (.invokestatic 411, 3) := by decide +kernel
theorem zd295_83 : decode zxm295.2.1 83 = .ok (.iastore, 1) := by decide +kernel
theorem zd295_84 : decode zxm295.2.1 84 = .ok (.iinc 1 1, 3) := by decide +kernel
theorem zd295_87 : decode zxm295.2.1 87 = .ok (.goto (-85), 3) := by decide +kernel
theorem zd295_90 : decode zxm295.2.1 90 = .ok (.return_, 1) := by decide +kernel
theorem zt_M_walks {g0 : (Int → Int)} {o : (Int → Int)} (h : zf_M_walks g0 = some o) : zv_Fn z_TB z_cl z_KX zy_M_walks zxm295 (2, 120) [.inr 0] [] [g0] none [] [o] := zv_meth (K := (z_KF13, z_KC13, z_KL13, z_KT13, [], [], [], none)) (FT := z_FT) (MT := z_MT) (n := 1) zxp295 (z_ks13 _ (fun _ h => List.mem_cons_of_mem _ h) _ _ _ _ (fun j r h _ => by cases h)) (fun _ _ => zs_KX_p) zyw_M_walks (fun va F G h => by obtain ⟨rfl, _⟩ := h; rfl) (fun va F G h => by obtain ⟨rfl, _⟩ := h; rfl) rfl fun good va F G hB hret hvret hP => by
  obtain ⟨rfl, rfl, rfl⟩ := hP
  have l0 : ∀ (n : Nat) (x1 : Int) (g0 : (Int → Int)) (q : (Int → Int)), zf_M_walks_l0 n x1 g0 = some q → (good 90 [.inr 1000, .inr 1000] [] [] [q]) → good 2 [.inr 0, .inl x1] [] [] [g0] := by
    intro n
    induction n with
    | zero => intro x1 g0 q h; exact absurd (show none = some q from h) (fun h => by cases h)
    | succ n ih =>
      intro x1 g0 q h hK
      replace h : zf_M_walks_l0_b (zf_M_walks_l0 n) x1 g0 = some q := h
      unfold zf_M_walks_l0_b at h
      refine zv_ild hB zd295_2 rfl rfl ?_
      refine zv_con hB zd295_3 rfl ?_
      refine zv_cge hB zd295_5 rfl (fun hc1 => ?_) (fun hc1 => ?_)
      · rw [if_neg (Int.not_lt.mpr hc1)] at h
        have hq := Option.some.inj h
        subst hq
        refine zv_wk hB (L' := [.inr 1000, .inr 1000]) (F' := []) ⟨fun (h : zv_is (.inr 1000)) => (Nat.lt_irrefl 1000 h).elim, fun (h : zv_is (.inr 1000)) => (Nat.lt_irrefl 1000 h).elim, trivial⟩ trivial ?_
        exact hK
      · rw [if_pos hc1] at h
        refine zv_ald hB zd295_8 rfl rfl rfl ?_
        refine zv_ild hB zd295_9 rfl rfl ?_
        obtain ⟨r2, hr2, h⟩ := zi_bind h
        refine zv_cv hB (zv_emq (va2 := [.inr 0, .inl x1]) (F := []) (F' := []) (G := [g0]) (G' := [g0]) (ρ := [0, 1]) (φ := []) (ψ := [0]) [] [some 0] zyw_M_isTold zyw_M_walks zye_M_walks (by decide +kernel) (zt_M_isTold hr2) trivial ⟨rfl, trivial⟩ rfl rfl rfl rfl rfl rfl rfl) zd295_10 zxt203 rfl (by decide) (by decide) rfl ?_
        refine zv_zne hB zd295_13 rfl (fun hc3 => ?_) (fun hc3 => ?_)
        · rw [if_neg hc3] at h
          refine zv_ald hB zd295_19 rfl rfl rfl ?_
          refine zv_getr hB zd295_20 rfl ?_
          refine zv_con hB zd295_23 rfl ?_
          refine zv_ild hB zd295_24 rfl rfl ?_
          refine zv_addw hB zd295_25 ?_
          refine zv_ald hB zd295_26 rfl rfl rfl ?_
          refine zv_getr hB zd295_27 rfl ?_
          refine zv_con hB zd295_30 rfl ?_
          refine zv_ild hB zd295_31 rfl rfl ?_
          refine zv_addw hB zd295_32 ?_
          obtain ⟨c4, h⟩ := zi_if h
          refine zv_iald hB zd295_33 rfl rfl (zi_ix_ok c4).1 (zi_ix_ok c4).2 (fun _ _ => ?_)
          refine zv_ald hB zd295_34 rfl rfl rfl ?_
          refine zv_getr hB zd295_35 rfl ?_
          refine zv_con hB zd295_38 rfl ?_
          refine zv_ild hB zd295_40 rfl rfl ?_
          refine zv_addw hB zd295_41 ?_
          obtain ⟨c5, h⟩ := zi_if h
          refine zv_iald hB zd295_42 rfl rfl (zi_ix_ok c5).1 (zi_ix_ok c5).2 (fun _ _ => ?_)
          refine zv_addw hB zd295_43 ?_
          refine zv_con hB zd295_44 rfl ?_
          refine zv_addw hB zd295_46 ?_
          refine zv_con hB zd295_47 rfl ?_
          refine zv_remw hB zd295_49 (by decide) ?_
          refine zv_iast hB zd295_50 rfl rfl (zi_ix_ok c4).1 (zi_ix_ok c4).2 ?_
          refine zv_ald hB zd295_51 rfl rfl rfl ?_
          refine zv_getr hB zd295_52 rfl ?_
          refine zv_con hB zd295_55 rfl ?_
          refine zv_ild hB zd295_57 rfl rfl ?_
          refine zv_addw hB zd295_58 ?_
          refine zv_ald hB zd295_59 rfl rfl rfl ?_
          refine zv_getr hB zd295_60 rfl ?_
          refine zv_con hB zd295_63 rfl ?_
          refine zv_ild hB zd295_65 rfl rfl ?_
          refine zv_addw hB zd295_66 ?_
          obtain ⟨c6, h⟩ := zi_if h
          refine zv_iald hB zd295_67 rfl rfl (zi_ix_ok c6).1 (zi_ix_ok c6).2 (fun _ _ => ?_)
          refine zv_ald hB zd295_68 rfl rfl rfl ?_
          refine zv_getr hB zd295_69 rfl ?_
          refine zv_con hB zd295_72 rfl ?_
          refine zv_ild hB zd295_74 rfl rfl ?_
          refine zv_addw hB zd295_75 ?_
          obtain ⟨c7, h⟩ := zi_if h
          refine zv_iald hB zd295_76 rfl rfl (zi_ix_ok c7).1 (zi_ix_ok c7).2 (fun _ _ => ?_)
          refine zv_addw hB zd295_77 ?_
          refine zv_con hB zd295_78 rfl ?_
          obtain ⟨r8, hr8, h⟩ := zi_bind h
          refine zv_cs hB (zv_emq (va2 := [.inl (zi_w (((zv_up g0 (zi_w (0 + x1)) (zi_rem (zi_w ((zi_w ((g0 (zi_w (0 + x1))) + (g0 (zi_w (72 + x1))))) + 24)) 24)) (zi_w (24 + x1))) + ((zv_up g0 (zi_w (0 + x1)) (zi_rem (zi_w ((zi_w ((g0 (zi_w (0 + x1))) + (g0 (zi_w (72 + x1))))) + 24)) 24)) (zi_w (96 + x1))))), .inl 11]) (F := []) (F' := []) (G := [(zv_up g0 (zi_w (0 + x1)) (zi_rem (zi_w ((zi_w ((g0 (zi_w (0 + x1))) + (g0 (zi_w (72 + x1))))) + 24)) 24))]) (G' := [(zv_up g0 (zi_w (0 + x1)) (zi_rem (zi_w ((zi_w ((g0 (zi_w (0 + x1))) + (g0 (zi_w (72 + x1))))) + 24)) 24))]) (ρ := []) (φ := []) (ψ := []) [] [none] zyw_M_held zyw_M_walks zye_M_walks (by decide +kernel) (zt_M_held hr8) trivial trivial rfl rfl rfl rfl rfl rfl rfl) zd295_80 zxt296 rfl (by decide) (by decide) rfl ?_
          refine zv_iast hB zd295_83 rfl rfl (zi_ix_ok c6).1 (zi_ix_ok c6).2 ?_
          refine zv_iincw hB zd295_84 rfl rfl ?_
          refine zv_goto hB zd295_87 rfl ?_
          exact ih _ _ q h hK
        · rw [if_pos hc3] at h
          refine zv_goto hB zd295_16 rfl ?_
          refine zv_iincw hB zd295_84 rfl rfl ?_
          refine zv_goto hB zd295_87 rfl ?_
          exact ih _ _ q h hK
  unfold zf_M_walks at h
  refine zv_con hB zd295_0 rfl ?_
  refine zv_ist hB zd295_1 rfl rfl rfl ?_
  obtain ⟨q9, hq9, h⟩ := zi_bind h
  refine l0 _ _ _ q9 hq9 ?_
  show good 90 [.inr 1000, .inr 1000] [] [] [q9]
  have hw := Option.some.inj h
  subst hw
  exact hvret _ _ _ _ zd295_90 trivial ⟨rfl, rfl, rfl⟩
/-! M_passes ()V -/
-- names: 0 StarTalesModel('arg', 0), 1 (0, 422)(0, 12, 0)
-- fields: ; arrays: g0 = 1; out: [('g', 0)]
abbrev zy_M_passes : zNL := (2, [(0, 12)], [], [(0, 12, 0, 1)], [(1, 0, 422, 0)])
theorem zyw_M_passes : zv_wf zy_M_passes = true := by decide +kernel
theorem zye_M_passes : zv_ek2 zy_M_passes = true := by decide +kernel
def zf_M_passes (g0 : (Int → Int)) : Option ((Int → Int)) := if ((zv_up g0 128 (zi_w ((g0 128) + 1))) 128) < 24 then (some (zv_up g0 128 (zi_w ((g0 128) + 1)))) else ((zf_M_walks (zv_up (zv_up (zv_up g0 128 (zi_w ((g0 128) + 1))) 128 0) 129 (zi_w (((zv_up (zv_up g0 128 (zi_w ((g0 128) + 1))) 128 0) 129) + 1)))).bind fun r2 => (some r2))
theorem zd294_0 : decode zxm294.2.1 0 = .ok (.aload_n 0, 1) := by decide +kernel
theorem zd294_1 : decode zxm294.2.1 1 = .ok (.getfield 7, 3) := by decide +kernel
theorem zd294_4 : decode zxm294.2.1 4 = .ok (.sipush 128, 3) := by decide +kernel
theorem zd294_7 : decode zxm294.2.1 7 = .ok (.aload_n 0, 1) := by decide +kernel
theorem zd294_8 : decode zxm294.2.1 8 = .ok (.getfield 7, 3) := by decide +kernel
theorem zd294_11 : decode zxm294.2.1 11 = .ok (.sipush 128, 3) := by decide +kernel
theorem zd294_14 : decode zxm294.2.1 14 = .ok (.iaload, 1) := by decide +kernel
theorem zd294_15 : decode zxm294.2.1 15 = .ok (.iconst 1, 1) := by decide +kernel
theorem zd294_16 : decode zxm294.2.1 16 = .ok (.iadd, 1) := by decide +kernel
theorem zd294_17 : decode zxm294.2.1 17 = .ok (.iastore, 1) := by decide +kernel
theorem zd294_18 : decode zxm294.2.1 18 = .ok (.aload_n 0, 1) := by decide +kernel
theorem zd294_19 : decode zxm294.2.1 19 = .ok (.getfield 7, 3) := by decide +kernel
theorem zd294_22 : decode zxm294.2.1 22 = .ok (.sipush 128, 3) := by decide +kernel
theorem zd294_25 : decode zxm294.2.1 25 = .ok (.iaload, 1) := by decide +kernel
theorem zd294_26 : decode zxm294.2.1 26 = .ok (.bipush 24, 2) := by decide +kernel
theorem zd294_28 : decode zxm294.2.1 28 = .ok (.if_icmp .ge 4, 3) := by decide +kernel
theorem zd294_31 : decode zxm294.2.1 31 = .ok (.return_, 1) := by decide +kernel
theorem zd294_32 : decode zxm294.2.1 32 = .ok (.aload_n 0, 1) := by decide +kernel
theorem zd294_33 : decode zxm294.2.1 33 = .ok (.getfield 7, 3) := by decide +kernel
theorem zd294_36 : decode zxm294.2.1 36 = .ok (.sipush 128, 3) := by decide +kernel
theorem zd294_39 : decode zxm294.2.1 39 = .ok (.iconst 0, 1) := by decide +kernel
theorem zd294_40 : decode zxm294.2.1 40 = .ok (.iastore, 1) := by decide +kernel
theorem zd294_41 : decode zxm294.2.1 41 = .ok (.aload_n 0, 1) := by decide +kernel
theorem zd294_42 : decode zxm294.2.1 42 = .ok (.getfield 7, 3) := by decide +kernel
theorem zd294_45 : decode zxm294.2.1 45 = .ok (.sipush 129, 3) := by decide +kernel
theorem zd294_48 : decode zxm294.2.1 48 = .ok (.aload_n 0, 1) := by decide +kernel
theorem zd294_49 : decode zxm294.2.1 49 = .ok (.getfield 7, 3) := by decide +kernel
theorem zd294_52 : decode zxm294.2.1 52 = .ok (.sipush 129, 3) := by decide +kernel
theorem zd294_55 : decode zxm294.2.1 55 = .ok (.iaload, 1) := by decide +kernel
theorem zd294_56 : decode zxm294.2.1 56 = .ok (.iconst 1, 1) := by decide +kernel
theorem zd294_57 : decode zxm294.2.1 57 = .ok (.iadd, 1) := by decide +kernel
theorem zd294_58 : decode zxm294.2.1 58 = .ok (.iastore, 1) := by decide +kernel
theorem zd294_59 : decode zxm294.2.1 59 = .ok (.aload_n 0, 1) := by decide +kernel
theorem zd294_60 : decode zxm294.2.1 60 = .ok (.invokevirtual 414, 3) := by decide +kernel
theorem zd294_63 : decode zxm294.2.1 63 = .ok (.return_, 1) := by decide +kernel
theorem zt_M_passes {g0 : (Int → Int)} {o : (Int → Int)} (h : zf_M_passes g0 = some o) : zv_Fn z_TB z_cl z_KX zy_M_passes zxm294 (3, 180) [.inr 0] [] [g0] none [] [o] := zv_meth (K := (z_KF13, z_KC13, z_KL13, z_KT13, [], [], [], none)) (FT := z_FT) (MT := z_MT) (n := 1) zxp294 (z_ks13 _ (fun _ h => List.mem_cons_of_mem _ h) _ _ _ _ (fun j r h _ => by cases h)) (fun _ _ => zs_KX_p) zyw_M_passes (fun va F G h => by obtain ⟨rfl, _⟩ := h; rfl) (fun va F G h => by obtain ⟨rfl, _⟩ := h; rfl) rfl fun good va F G hB hret hvret hP => by
  obtain ⟨rfl, rfl, rfl⟩ := hP
  unfold zf_M_passes at h
  refine zv_ald hB zd294_0 rfl rfl rfl ?_
  refine zv_getr hB zd294_1 rfl ?_
  refine zv_con hB zd294_4 rfl ?_
  refine zv_ald hB zd294_7 rfl rfl rfl ?_
  refine zv_getr hB zd294_8 rfl ?_
  refine zv_con hB zd294_11 rfl ?_
  refine zv_iald hB zd294_14 rfl rfl (by decide) (by decide) (fun _ _ => ?_)
  refine zv_con hB zd294_15 rfl ?_
  refine zv_addw hB zd294_16 ?_
  refine zv_iast hB zd294_17 rfl rfl (by decide) (by decide) ?_
  refine zv_ald hB zd294_18 rfl rfl rfl ?_
  refine zv_getr hB zd294_19 rfl ?_
  refine zv_con hB zd294_22 rfl ?_
  refine zv_iald hB zd294_25 rfl rfl (by decide) (by decide) (fun _ _ => ?_)
  refine zv_con hB zd294_26 rfl ?_
  refine zv_cge hB zd294_28 rfl (fun hc1 => ?_) (fun hc1 => ?_)
  · rw [if_neg (Int.not_lt.mpr hc1)] at h
    refine zv_ald hB zd294_32 rfl rfl rfl ?_
    refine zv_getr hB zd294_33 rfl ?_
    refine zv_con hB zd294_36 rfl ?_
    refine zv_con hB zd294_39 rfl ?_
    refine zv_iast hB zd294_40 rfl rfl (by decide) (by decide) ?_
    refine zv_ald hB zd294_41 rfl rfl rfl ?_
    refine zv_getr hB zd294_42 rfl ?_
    refine zv_con hB zd294_45 rfl ?_
    refine zv_ald hB zd294_48 rfl rfl rfl ?_
    refine zv_getr hB zd294_49 rfl ?_
    refine zv_con hB zd294_52 rfl ?_
    refine zv_iald hB zd294_55 rfl rfl (by decide) (by decide) (fun _ _ => ?_)
    refine zv_con hB zd294_56 rfl ?_
    refine zv_addw hB zd294_57 ?_
    refine zv_iast hB zd294_58 rfl rfl (by decide) (by decide) ?_
    refine zv_ald hB zd294_59 rfl rfl rfl ?_
    obtain ⟨r2, hr2, h⟩ := zi_bind h
    refine zv_cv hB (zv_emq (va2 := [.inr 0]) (F := []) (F' := []) (G := [(zv_up (zv_up (zv_up g0 128 (zi_w ((g0 128) + 1))) 128 0) 129 (zi_w (((zv_up (zv_up g0 128 (zi_w ((g0 128) + 1))) 128 0) 129) + 1)))]) (G' := [r2]) (ρ := [0, 1]) (φ := []) (ψ := [0]) [] [some 0] zyw_M_walks zyw_M_passes zye_M_passes (by decide +kernel) (zt_M_walks hr2) trivial ⟨rfl, trivial⟩ rfl rfl rfl rfl rfl rfl rfl) zd294_60 zxt295 rfl (by decide) (by decide) rfl ?_
    have hw := Option.some.inj h
    subst hw
    exact hvret _ _ _ _ zd294_63 trivial ⟨rfl, rfl, rfl⟩
  · rw [if_pos hc1] at h
    have hw := Option.some.inj h
    subst hw
    exact hvret _ _ _ _ zd294_31 trivial ⟨rfl, rfl, rfl⟩
/-! M_drawsClouds ()V -/
-- names: 0 StarTalesModel('arg', 0), 1 (0, 422)(0, 12, 0), 2 (0, 13)(0, 12, 26), 3 (0, 14)(0, 12, 21), 4 (0, 14)(0, 12, 23), 5 (0, 14)(0, 12, 24), 6 (0, 220)(0, 12, 20), 7 (0, 220)(0, 12, 25), 8 (0, 14)(0, 12, 22)
-- fields: f0 = 0.clauses_; arrays: g0 = 1, g1 = 2, g2 = 3, g3 = 4, g4 = 5, g5 = 6, g6 = 7, g7 = 8; out: [('g', 0), ('g', 1), ('g', 6)]
abbrev zy_M_drawsClouds : zNL := (9, [(0, 12)], [(0, 12, 13, 0)], [(0, 12, 0, 1), (0, 12, 26, 2), (0, 12, 21, 3), (0, 12, 23, 4), (0, 12, 24, 5), (0, 12, 20, 6), (0, 12, 25, 7), (0, 12, 22, 8)], [(1, 0, 422, 0), (2, 0, 13, 1), (3, 0, 14, 2), (4, 0, 14, 3), (5, 0, 14, 4), (6, 0, 220, 5), (7, 0, 220, 6), (8, 0, 14, 7)])
theorem zyw_M_drawsClouds : zv_wf zy_M_drawsClouds = true := by decide +kernel
theorem zye_M_drawsClouds : zv_ek2 zy_M_drawsClouds = true := by decide +kernel
def zf_M_drawsClouds_l0_b (f0 : Int) (g2 : (Int → Int)) (g3 : (Int → Int)) (g4 : (Int → Int)) (g5 : (Int → Int)) (g7 : (Int → Int)) (rec : Int → (Int → Int) → (Int → Int) → (Int → Int) → Option ((Int → Int) × (Int → Int) × (Int → Int))) (x1 : Int) (g0 : (Int → Int)) (g1 : (Int → Int)) (g6 : (Int → Int)) : Option ((Int → Int) × (Int → Int) × (Int → Int)) := if x1 < 24 then ((zf_M_feels g1 (zv_up g0 133 (zi_rem (zi_w ((zi_w (25173 * (g0 133))) + 13849)) 65536))).bind fun r2 => ((zf_M_byLaw 113 10 f0 g2 g3 g4 g5 g6 (zv_up r2 5 x1) g7).bind fun r3 => (if (zi_rem ((zv_up g0 133 (zi_rem (zi_w ((zi_w (25173 * (g0 133))) + 13849)) 65536)) 133) 10) < r3.1 then (rec (zi_w (x1 + 1)) (zv_up (zv_up g0 133 (zi_rem (zi_w ((zi_w (25173 * (g0 133))) + 13849)) 65536)) 130 (zi_or ((zv_up g0 133 (zi_rem (zi_w ((zi_w (25173 * (g0 133))) + 13849)) 65536)) 130) (zi_shl 1 x1))) (zv_up r2 5 x1) r3.2) else (rec (zi_w (x1 + 1)) (zv_up g0 133 (zi_rem (zi_w ((zi_w (25173 * (g0 133))) + 13849)) 65536)) (zv_up r2 5 x1) r3.2)))) else (some (g0, g1, g6))
def zf_M_drawsClouds_l0 (f0 : Int) (g2 : (Int → Int)) (g3 : (Int → Int)) (g4 : (Int → Int)) (g5 : (Int → Int)) (g7 : (Int → Int)) : Nat → Int → (Int → Int) → (Int → Int) → (Int → Int) → Option ((Int → Int) × (Int → Int) × (Int → Int))
  | 0, _, _, _, _ => none
  | n + 1, x1, g0, g1, g6 => zf_M_drawsClouds_l0_b f0 g2 g3 g4 g5 g7 (zf_M_drawsClouds_l0 f0 g2 g3 g4 g5 g7 n) x1 g0 g1 g6
def zf_M_drawsClouds (f0 : Int) (g0 : (Int → Int)) (g1 : (Int → Int)) (g2 : (Int → Int)) (g3 : (Int → Int)) (g4 : (Int → Int)) (g5 : (Int → Int)) (g6 : (Int → Int)) (g7 : (Int → Int)) : Option ((Int → Int) × (Int → Int) × (Int → Int)) := (zf_M_drawsClouds_l0 f0 g2 g3 g4 g5 g7 zi_fu 0 (zv_up g0 130 0) g1 g6).bind fun q5 => (some (q5.1, q5.2.1, q5.2.2))
theorem zd291_0 : decode zxm291.2.1 0 = .ok (.aload_n 0, 1) := by decide +kernel
theorem zd291_1 : decode zxm291.2.1 1 = .ok (.getfield 7, 3) := by decide +kernel
theorem zd291_4 : decode zxm291.2.1 4 = .ok (.sipush 130, 3) := by decide +kernel
theorem zd291_7 : decode zxm291.2.1 7 = .ok (.iconst 0, 1) := by decide +kernel
theorem zd291_8 : decode zxm291.2.1 8 = .ok (.iastore, 1) := by decide +kernel
theorem zd291_9 : decode zxm291.2.1 9 = .ok (.iconst 0, 1) := by decide +kernel
theorem zd291_10 : decode zxm291.2.1 10 = .ok (.istore_n 1, 1) := by decide +kernel
theorem zd291_11 : decode zxm291.2.1 11 = .ok (.iload_n 1, 1) := by decide +kernel
theorem zd291_12 : decode zxm291.2.1 12 = .ok (.bipush 24, 2) := by decide +kernel
theorem zd291_14 : decode zxm291.2.1 14 = .ok (.if_icmp .ge 90, 3) := by decide +kernel
theorem zd291_17 : decode zxm291.2.1 17 = .ok (.aload_n 0, 1) := by decide +kernel
theorem zd291_18 : decode zxm291.2.1 18 = .ok (.getfield 7, 3) := by decide +kernel
theorem zd291_21 : decode zxm291.2.1 21 = .ok (.sipush 133, 3) := by decide +kernel
theorem zd291_24 : decode zxm291.2.1 24 = .ok (.sipush 25173, 3) := by decide +kernel
theorem zd291_27 : decode zxm291.2.1 27 = .ok (.aload_n 0, 1) := by decide +kernel
theorem zd291_28 : decode zxm291.2.1 28 = .ok (.getfield 7, 3) := by decide +kernel
theorem zd291_31 : decode zxm291.2.1 31 = .ok (.sipush 133, 3) := by decide +kernel
theorem zd291_34 : decode zxm291.2.1 34 = .ok (.iaload, 1) := by decide +kernel
theorem zd291_35 : decode zxm291.2.1 35 = .ok (.imul, 1) := by decide +kernel
theorem zd291_36 : decode zxm291.2.1 36 = .ok (.sipush 13849, 3) := by decide +kernel
theorem zd291_39 : decode zxm291.2.1 39 = .ok (.iadd, 1) := by decide +kernel
theorem zd291_40 : decode zxm291.2.1 40 = .ok (.ldc_w 417, 3) := by decide +kernel
theorem zd291_43 : decode zxm291.2.1 43 = .ok (.irem, 1) := by decide +kernel
theorem zd291_44 : decode zxm291.2.1 44 = .ok (.iastore, 1) := by decide +kernel
theorem zd291_45 : decode zxm291.2.1 45 = .ok (.aload_n 0, 1) := by decide +kernel
theorem zd291_46 : decode zxm291.2.1 46 = .ok (.invokevirtual 278, 3) := by decide +kernel
theorem zd291_49 : decode zxm291.2.1 49 = .ok (.aload_n 0, 1) := by decide +kernel
theorem zd291_50 : decode zxm291.2.1 50 = .ok (.getfield 59, 3) := by decide +kernel
theorem zd291_53 : decode zxm291.2.1 53 = .ok (.iconst 5, 1) := by decide +kernel
theorem zd291_54 : decode zxm291.2.1 54 = .ok (.iload_n 1, 1) := by decide +kernel
theorem zd291_55 : decode zxm291.2.1 55 = .ok (.iastore, 1) := by decide +kernel
theorem zd291_56 : decode zxm291.2.1 56 = .ok (.aload_n 0, 1) := by decide +kernel
theorem zd291_57 : decode zxm291.2.1 57 = .ok (.getfield 7, 3) := by decide +kernel
theorem zd291_60 : decode zxm291.2.1 60 = .ok (.sipush 133, 3) := by decide +kernel
theorem zd291_63 : decode zxm291.2.1 63 = .ok (.iaload, 1) := by decide +kernel
theorem zd291_64 : decode zxm291.2.1 64 = .ok (.bipush 10, 2) := by decide +kernel
theorem zd291_66 : decode zxm291.2.1 66 = .ok (.irem, 1) := by decide +kernel
theorem zd291_67 : decode zxm291.2.1 67 = .ok (.aload_n 0, 1) := by decide +kernel
theorem zd291_68 : decode zxm291.2.1 68 = .ok (.bipush 113, 2) := by decide +kernel
theorem zd291_70 : decode zxm291.2.1 70 = .ok (.bipush 10, 2) := by decide +kernel
theorem zd291_72 : decode zxm291.2.1 72 = .ok (.invokevirtual 408, 3) := by decide +kernel
theorem zd291_75 : decode zxm291.2.1 75 = .ok (.if_icmp .ge 23, 3) := by decide +kernel
theorem zd291_78 : decode zxm291.2.1 78 = .ok (.aload_n 0, 1) := by decide +kernel
theorem zd291_79 : decode zxm291.2.1 79 = .ok (.getfield 7, 3) := by decide +kernel
theorem zd291_82 : decode zxm291.2.1 82 = .ok (.sipush 130, 3) := by decide +kernel
theorem zd291_85 : decode zxm291.2.1 85 = .ok (.aload_n 0, 1) := by decide +kernel
theorem zd291_86 : decode zxm291.2.1 86 = .ok (.getfield 7, 3) := by decide +kernel
theorem zd291_89 : decode zxm291.2.1 89 = .ok (.sipush 130, 3) := by decide +kernel
theorem zd291_92 : decode zxm291.2.1 92 = .ok (.iaload, 1) := by decide +kernel
theorem zd291_93 : decode zxm291.2.1 93 = .ok (.iconst 1, 1) := by decide +kernel
theorem zd291_94 : decode zxm291.2.1 94 = .ok (.iload_n 1, 1) := by decide +kernel
theorem zd291_95 : decode zxm291.2.1 95 = .ok (.ishl, 1) := by decide +kernel
theorem zd291_96 : decode zxm291.2.1 96 = .ok (.ior, 1) := by decide +kernel
theorem zd291_97 : decode zxm291.2.1 97 = .ok (.iastore, 1) := by decide +kernel
theorem zd291_98 : decode zxm291.2.1 98 = .ok (.iinc 1 1, 3) := by decide +kernel
theorem zd291_101 : decode zxm291.2.1 101 = .ok (.goto (-90), 3) := by decide +kernel
theorem zd291_104 : decode zxm291.2.1 104 = .ok (.return_, 1) := by decide +kernel
theorem zt_M_drawsClouds {f0 : Int} {g0 : (Int → Int)} {g1 : (Int → Int)} {g2 : (Int → Int)} {g3 : (Int → Int)} {g4 : (Int → Int)} {g5 : (Int → Int)} {g6 : (Int → Int)} {g7 : (Int → Int)} {o : (Int → Int) × (Int → Int) × (Int → Int)} (h : zf_M_drawsClouds f0 g0 g1 g2 g3 g4 g5 g6 g7 = some o) : zv_Fn z_TB z_cl z_KX zy_M_drawsClouds zxm291 (3, 180) [.inr 0] [.inl f0] [g0, g1, g2, g3, g4, g5, g6, g7] none [.inl f0] [o.1, o.2.1, g2, g3, g4, g5, o.2.2, g7] := zv_meth (K := (z_KF13, z_KC13, z_KL13, z_KT13, [], [], [], none)) (FT := z_FT) (MT := z_MT) (n := 1) zxp291 (z_ks13 _ (fun _ h => List.mem_cons_of_mem _ h) _ _ _ _ (fun j r h _ => by cases h)) (fun _ _ => zs_KX_p) zyw_M_drawsClouds (fun va F G h => by obtain ⟨rfl, _⟩ := h; rfl) (fun va F G h => by obtain ⟨rfl, _⟩ := h; rfl) rfl fun good va F G hB hret hvret hP => by
  obtain ⟨rfl, rfl, rfl⟩ := hP
  have l0 : ∀ (n : Nat) (x1 : Int) (g0 : (Int → Int)) (g1 : (Int → Int)) (g6 : (Int → Int)) (q : (Int → Int) × (Int → Int) × (Int → Int)), zf_M_drawsClouds_l0 f0 g2 g3 g4 g5 g7 n x1 g0 g1 g6 = some q → (good 104 [.inr 1000, .inr 1000] [] [.inl f0] [q.1, q.2.1, g2, g3, g4, g5, q.2.2, g7]) → good 11 [.inr 0, .inl x1] [] [.inl f0] [g0, g1, g2, g3, g4, g5, g6, g7] := by
    intro n
    induction n with
    | zero => intro x1 g0 g1 g6 q h; exact absurd (show none = some q from h) (fun h => by cases h)
    | succ n ih =>
      intro x1 g0 g1 g6 q h hK
      replace h : zf_M_drawsClouds_l0_b f0 g2 g3 g4 g5 g7 (zf_M_drawsClouds_l0 f0 g2 g3 g4 g5 g7 n) x1 g0 g1 g6 = some q := h
      unfold zf_M_drawsClouds_l0_b at h
      refine zv_ild hB zd291_11 rfl rfl ?_
      refine zv_con hB zd291_12 rfl ?_
      refine zv_cge hB zd291_14 rfl (fun hc1 => ?_) (fun hc1 => ?_)
      · rw [if_neg (Int.not_lt.mpr hc1)] at h
        have hq := Option.some.inj h
        subst hq
        refine zv_wk hB (L' := [.inr 1000, .inr 1000]) (F' := [.inl f0]) ⟨fun (h : zv_is (.inr 1000)) => (Nat.lt_irrefl 1000 h).elim, fun (h : zv_is (.inr 1000)) => (Nat.lt_irrefl 1000 h).elim, trivial⟩ ⟨fun _ => rfl, trivial⟩ ?_
        exact hK
      · rw [if_pos hc1] at h
        refine zv_ald hB zd291_17 rfl rfl rfl ?_
        refine zv_getr hB zd291_18 rfl ?_
        refine zv_con hB zd291_21 rfl ?_
        refine zv_con hB zd291_24 rfl ?_
        refine zv_ald hB zd291_27 rfl rfl rfl ?_
        refine zv_getr hB zd291_28 rfl ?_
        refine zv_con hB zd291_31 rfl ?_
        refine zv_iald hB zd291_34 rfl rfl (by decide) (by decide) (fun _ _ => ?_)
        refine zv_mulw hB zd291_35 ?_
        refine zv_con hB zd291_36 rfl ?_
        refine zv_addw hB zd291_39 ?_
        refine zv_con (n := 65536) hB zd291_40 (by decide +kernel) ?_
        refine zv_remw hB zd291_43 (by decide) ?_
        refine zv_iast hB zd291_44 rfl rfl (by decide) (by decide) ?_
        refine zv_ald hB zd291_45 rfl rfl rfl ?_
        obtain ⟨r2, hr2, h⟩ := zi_bind h
        refine zv_cv hB (zv_emq (va2 := [.inr 0]) (F := [.inl f0]) (F' := [.inl f0]) (G := [(zv_up g0 133 (zi_rem (zi_w ((zi_w (25173 * (g0 133))) + 13849)) 65536)), g1, g2, g3, g4, g5, g6, g7]) (G' := [(zv_up g0 133 (zi_rem (zi_w ((zi_w (25173 * (g0 133))) + 13849)) 65536)), r2, g2, g3, g4, g5, g6, g7]) (ρ := [0, 2, 1]) (φ := []) (ψ := [1, 0]) [none] [some 1, some 0, none, none, none, none, none, none] zyw_M_feels zyw_M_drawsClouds zye_M_drawsClouds (by decide +kernel) (zt_M_feels hr2) trivial ⟨rfl, rfl, trivial⟩ rfl rfl rfl rfl rfl rfl rfl) zd291_46 zxt246 rfl (by decide) (by decide) rfl ?_
        refine zv_ald hB zd291_49 rfl rfl rfl ?_
        refine zv_getr hB zd291_50 rfl ?_
        refine zv_con hB zd291_53 rfl ?_
        refine zv_ild hB zd291_54 rfl rfl ?_
        refine zv_iast hB zd291_55 rfl rfl (by decide) (by decide) ?_
        refine zv_ald hB zd291_56 rfl rfl rfl ?_
        refine zv_getr hB zd291_57 rfl ?_
        refine zv_con hB zd291_60 rfl ?_
        refine zv_iald hB zd291_63 rfl rfl (by decide) (by decide) (fun _ _ => ?_)
        refine zv_con hB zd291_64 rfl ?_
        refine zv_remw hB zd291_66 (by decide) ?_
        refine zv_ald hB zd291_67 rfl rfl rfl ?_
        refine zv_con hB zd291_68 rfl ?_
        refine zv_con hB zd291_70 rfl ?_
        obtain ⟨r3, hr3, h⟩ := zi_bind h
        refine zv_cv hB (zv_emq (va2 := [.inr 0, .inl 113, .inl 10]) (F := [.inl f0]) (F' := [.inl f0]) (G := [(zv_up g0 133 (zi_rem (zi_w ((zi_w (25173 * (g0 133))) + 13849)) 65536)), (zv_up r2 5 x1), g2, g3, g4, g5, g6, g7]) (G' := [(zv_up g0 133 (zi_rem (zi_w ((zi_w (25173 * (g0 133))) + 13849)) 65536)), (zv_up r2 5 x1), g2, g3, g4, g5, r3.2, g7]) (ρ := [0, 3, 4, 5, 6, 7, 2, 8]) (φ := [0]) (ψ := [2, 3, 4, 5, 6, 1, 7]) [some 0] [none, some 5, some 0, some 1, some 2, some 3, some 4, some 6] zyw_M_byLaw zyw_M_drawsClouds zye_M_drawsClouds (by decide +kernel) (zt_M_byLaw hr3) ⟨⟨_, rfl, fun _ => rfl⟩, trivial⟩ ⟨rfl, rfl, rfl, rfl, rfl, rfl, rfl, trivial⟩ rfl rfl rfl rfl rfl rfl rfl) zd291_72 zxt288 rfl (by decide) (by decide) rfl ?_
        refine zv_cge hB zd291_75 rfl (fun hc4 => ?_) (fun hc4 => ?_)
        · rw [if_neg (Int.not_lt.mpr hc4)] at h
          refine zv_iincw hB zd291_98 rfl rfl ?_
          refine zv_goto hB zd291_101 rfl ?_
          exact ih _ _ _ _ q h hK
        · rw [if_pos hc4] at h
          refine zv_ald hB zd291_78 rfl rfl rfl ?_
          refine zv_getr hB zd291_79 rfl ?_
          refine zv_con hB zd291_82 rfl ?_
          refine zv_ald hB zd291_85 rfl rfl rfl ?_
          refine zv_getr hB zd291_86 rfl ?_
          refine zv_con hB zd291_89 rfl ?_
          refine zv_iald hB zd291_92 rfl rfl (by decide) (by decide) (fun _ _ => ?_)
          refine zv_con hB zd291_93 rfl ?_
          refine zv_ild hB zd291_94 rfl rfl ?_
          refine zv_shlw hB zd291_95 ?_
          refine zv_orw hB zd291_96 ?_
          refine zv_iast hB zd291_97 rfl rfl (by decide) (by decide) ?_
          refine zv_iincw hB zd291_98 rfl rfl ?_
          refine zv_goto hB zd291_101 rfl ?_
          exact ih _ _ _ _ q h hK
  unfold zf_M_drawsClouds at h
  refine zv_ald hB zd291_0 rfl rfl rfl ?_
  refine zv_getr hB zd291_1 rfl ?_
  refine zv_con hB zd291_4 rfl ?_
  refine zv_con hB zd291_7 rfl ?_
  refine zv_iast hB zd291_8 rfl rfl (by decide) (by decide) ?_
  refine zv_con hB zd291_9 rfl ?_
  refine zv_ist hB zd291_10 rfl rfl rfl ?_
  obtain ⟨q5, hq5, h⟩ := zi_bind h
  refine l0 _ _ _ _ _ q5 hq5 ?_
  show good 104 [.inr 1000, .inr 1000] [] [.inl f0] [q5.1, q5.2.1, g2, g3, g4, g5, q5.2.2, g7]
  have hw := Option.some.inj h
  subst hw
  exact hvret _ _ _ _ zd291_104 trivial ⟨rfl, rfl, rfl⟩
/-! M_steers (IIZ)V -/
-- names: 0 StarTalesModel('arg', 0), 1 (0, 422)(0, 12, 0), 2 (0, 14)(0, 12, 21), 3 (0, 13)(0, 12, 26), 4 (0, 14)(0, 12, 23), 5 (0, 14)(0, 12, 24), 6 (0, 220)(0, 12, 20), 7 (0, 220)(0, 12, 25), 8 (0, 14)(0, 12, 22)
-- fields: f0 = 0.clauses_; arrays: g0 = 1, g1 = 2, g2 = 3, g3 = 4, g4 = 5, g5 = 6, g6 = 7, g7 = 8; out: [('g', 0), ('g', 2), ('g', 6)]
abbrev zy_M_steers : zNL := (9, [(0, 12)], [(0, 12, 13, 0)], [(0, 12, 0, 1), (0, 12, 21, 2), (0, 12, 26, 3), (0, 12, 23, 4), (0, 12, 24, 5), (0, 12, 20, 6), (0, 12, 25, 7), (0, 12, 22, 8)], [(1, 0, 422, 0), (2, 0, 14, 1), (3, 0, 13, 2), (4, 0, 14, 3), (5, 0, 14, 4), (6, 0, 220, 5), (7, 0, 220, 6), (8, 0, 14, 7)])
theorem zyw_M_steers : zv_wf zy_M_steers = true := by decide +kernel
theorem zye_M_steers : zv_ek2 zy_M_steers = true := by decide +kernel
def zf_M_steers (x1 : Int) (x2 : Int) (x3 : Int) (f0 : Int) (g0 : (Int → Int)) (g1 : (Int → Int)) (g2 : (Int → Int)) (g3 : (Int → Int)) (g4 : (Int → Int)) (g5 : (Int → Int)) (g6 : (Int → Int)) (g7 : (Int → Int)) : Option ((Int → Int) × (Int → Int) × (Int → Int)) := if x3 = 0 then (cond (zi_ix (zi_w (120 + x1)) 422) ((zf_M_steersFrom (g0 (zi_w (120 + x1))) x2 f0 g0 g1 g2 g3 g4 g5 g6).bind fun r3 => ((zf_M_passes (zv_up g0 (zi_w (120 + x1)) r3.1)).bind fun r4 => (some (r4, r3.2.1, r3.2.2)))) none) else ((zf_M_drawsClouds f0 g0 g2 g1 g3 g4 g5 g6 g7).bind fun r5 => (cond (zi_ix (zi_w (120 + x1)) 422) ((zf_M_steersFrom (r5.1 (zi_w (120 + x1))) x2 f0 r5.1 g1 r5.2.1 g3 g4 g5 r5.2.2).bind fun r7 => ((zf_M_passes (zv_up r5.1 (zi_w (120 + x1)) r7.1)).bind fun r8 => (some (r8, r7.2.1, r7.2.2)))) none))
theorem zd290_0 : decode zxm290.2.1 0 = .ok (.iload_n 3, 1) := by decide +kernel
theorem zd290_1 : decode zxm290.2.1 1 = .ok (.ifCond .eq 7, 3) := by decide +kernel
theorem zd290_4 : decode zxm290.2.1 4 = .ok (.aload_n 0, 1) := by decide +kernel
theorem zd290_5 : decode zxm290.2.1 5 = .ok (.invokevirtual 421, 3) := by decide +kernel
theorem zd290_8 : decode zxm290.2.1 8 = .ok (.aload_n 0, 1) := by decide +kernel
theorem zd290_9 : decode zxm290.2.1 9 = .ok (.getfield 7, 3) := by decide +kernel
theorem zd290_12 : decode zxm290.2.1 12 = .ok (.bipush 120, 2) := by decide +kernel
theorem zd290_14 : decode zxm290.2.1 14 = .ok (.iload_n 1, 1) := by decide +kernel
theorem zd290_15 : decode zxm290.2.1 15 = .ok (.iadd, 1) := by decide +kernel
theorem zd290_16 : decode zxm290.2.1 16 = .ok (.aload_n 0, 1) := by decide +kernel
theorem zd290_17 : decode zxm290.2.1 17 = .ok (.aload_n 0, 1) := by decide +kernel
theorem zd290_18 : decode zxm290.2.1 18 = .ok (.getfield 7, 3) := by decide +kernel
theorem zd290_21 : decode zxm290.2.1 21 = .ok (.bipush 120, 2) := by decide +kernel
theorem zd290_23 : decode zxm290.2.1 23 = .ok (.iload_n 1, 1) := by decide +kernel
theorem zd290_24 : decode zxm290.2.1 24 = .ok (.iadd, 1) := by decide +kernel
theorem zd290_25 : decode zxm290.2.1 25 = .ok (.iaload, 1) := by decide +kernel
theorem zd290_26 : decode zxm290.2.1 26 = .ok (.iload_n 2, 1) := by decide +kernel
theorem zd290_27 : decode zxm290.2.1 27 = .ok (.invokevirtual 424, 3) := by decide +kernel
theorem zd290_30 : decode zxm290.2.1 30 = .ok (.iastore, 1) := by decide +kernel
theorem zd290_31 : decode zxm290.2.1 31 = .ok (.aload_n 0, 1) := by decide +kernel
theorem zd290_32 : decode zxm290.2.1 32 = .ok (.invokevirtual 427, 3) := by decide +kernel
theorem zd290_35 : decode zxm290.2.1 35 = .ok (.return_, 1) := by decide +kernel
theorem zt_M_steers {x1 : Int} {x2 : Int} {x3 : Int} {f0 : Int} {g0 : (Int → Int)} {g1 : (Int → Int)} {g2 : (Int → Int)} {g3 : (Int → Int)} {g4 : (Int → Int)} {g5 : (Int → Int)} {g6 : (Int → Int)} {g7 : (Int → Int)} {o : (Int → Int) × (Int → Int) × (Int → Int)} (h : zf_M_steers x1 x2 x3 f0 g0 g1 g2 g3 g4 g5 g6 g7 = some o) : zv_Fn z_TB z_cl z_KX zy_M_steers zxm290 (5, 300) [.inr 0, .inl x1, .inl x2, .inl x3] [.inl f0] [g0, g1, g2, g3, g4, g5, g6, g7] none [.inl f0] [o.1, g1, o.2.1, g3, g4, g5, o.2.2, g7] := zv_meth (K := (z_KF13, z_KC13, z_KL13, z_KT13, [], [], [], none)) (FT := z_FT) (MT := z_MT) (n := 4) zxp290 (z_ks13 _ (fun _ h => List.mem_cons_of_mem _ h) _ _ _ _ (fun j r h _ => by cases h)) (fun _ _ => zs_KX_p) zyw_M_steers (fun va F G h => by obtain ⟨rfl, _⟩ := h; rfl) (fun va F G h => by obtain ⟨rfl, _⟩ := h; rfl) rfl fun good va F G hB hret hvret hP => by
  obtain ⟨rfl, rfl, rfl⟩ := hP
  unfold zf_M_steers at h
  refine zv_ild hB zd290_0 rfl rfl ?_
  refine zv_zeq hB zd290_1 rfl (fun hc1 => ?_) (fun hc1 => ?_)
  · rw [if_pos hc1] at h
    refine zv_ald hB zd290_8 rfl rfl rfl ?_
    refine zv_getr hB zd290_9 rfl ?_
    refine zv_con hB zd290_12 rfl ?_
    refine zv_ild hB zd290_14 rfl rfl ?_
    refine zv_addw hB zd290_15 ?_
    refine zv_ald hB zd290_16 rfl rfl rfl ?_
    refine zv_ald hB zd290_17 rfl rfl rfl ?_
    refine zv_getr hB zd290_18 rfl ?_
    refine zv_con hB zd290_21 rfl ?_
    refine zv_ild hB zd290_23 rfl rfl ?_
    refine zv_addw hB zd290_24 ?_
    obtain ⟨c2, h⟩ := zi_if h
    refine zv_iald hB zd290_25 rfl rfl (zi_ix_ok c2).1 (zi_ix_ok c2).2 (fun _ _ => ?_)
    refine zv_ild hB zd290_26 rfl rfl ?_
    obtain ⟨r3, hr3, h⟩ := zi_bind h
    refine zv_cv hB (zv_emq (va2 := [.inr 0, .inl (g0 (zi_w (120 + x1))), .inl x2]) (F := [.inl f0]) (F' := [.inl f0]) (G := [g0, g1, g2, g3, g4, g5, g6, g7]) (G' := [g0, g1, r3.2.1, g3, g4, g5, r3.2.2, g7]) (ρ := [0, 1, 2, 3, 4, 5, 6, 7]) (φ := [0]) (ψ := [0, 1, 2, 3, 4, 5, 6]) [some 0] [some 0, some 1, some 2, some 3, some 4, some 5, some 6, none] zyw_M_steersFrom zyw_M_steers zye_M_steers (by decide +kernel) (zt_M_steersFrom hr3) ⟨⟨_, rfl, fun _ => rfl⟩, trivial⟩ ⟨rfl, rfl, rfl, rfl, rfl, rfl, rfl, trivial⟩ rfl rfl rfl rfl rfl rfl rfl) zd290_27 zxt292 rfl (by decide) (by decide) rfl ?_
    refine zv_iast hB zd290_30 rfl rfl (zi_ix_ok c2).1 (zi_ix_ok c2).2 ?_
    refine zv_ald hB zd290_31 rfl rfl rfl ?_
    obtain ⟨r4, hr4, h⟩ := zi_bind h
    refine zv_cv hB (zv_emq (va2 := [.inr 0]) (F := [.inl f0]) (F' := [.inl f0]) (G := [(zv_up g0 (zi_w (120 + x1)) r3.1), g1, r3.2.1, g3, g4, g5, r3.2.2, g7]) (G' := [r4, g1, r3.2.1, g3, g4, g5, r3.2.2, g7]) (ρ := [0, 1]) (φ := []) (ψ := [0]) [none] [some 0, none, none, none, none, none, none, none] zyw_M_passes zyw_M_steers zye_M_steers (by decide +kernel) (zt_M_passes hr4) trivial ⟨rfl, trivial⟩ rfl rfl rfl rfl rfl rfl rfl) zd290_32 zxt294 rfl (by decide) (by decide) rfl ?_
    have hw := Option.some.inj h
    subst hw
    exact hvret _ _ _ _ zd290_35 trivial ⟨rfl, rfl, rfl⟩
  · rw [if_neg hc1] at h
    refine zv_ald hB zd290_4 rfl rfl rfl ?_
    obtain ⟨r5, hr5, h⟩ := zi_bind h
    refine zv_cv hB (zv_emq (va2 := [.inr 0]) (F := [.inl f0]) (F' := [.inl f0]) (G := [g0, g1, g2, g3, g4, g5, g6, g7]) (G' := [r5.1, g1, r5.2.1, g3, g4, g5, r5.2.2, g7]) (ρ := [0, 1, 3, 2, 4, 5, 6, 7, 8]) (φ := [0]) (ψ := [0, 2, 1, 3, 4, 5, 6, 7]) [some 0] [some 0, some 2, some 1, some 3, some 4, some 5, some 6, some 7] zyw_M_drawsClouds zyw_M_steers zye_M_steers (by decide +kernel) (zt_M_drawsClouds hr5) ⟨⟨_, rfl, fun _ => rfl⟩, trivial⟩ ⟨rfl, rfl, rfl, rfl, rfl, rfl, rfl, rfl, trivial⟩ rfl rfl rfl rfl rfl rfl rfl) zd290_5 zxt291 rfl (by decide) (by decide) rfl ?_
    refine zv_ald hB zd290_8 rfl rfl rfl ?_
    refine zv_getr hB zd290_9 rfl ?_
    refine zv_con hB zd290_12 rfl ?_
    refine zv_ild hB zd290_14 rfl rfl ?_
    refine zv_addw hB zd290_15 ?_
    refine zv_ald hB zd290_16 rfl rfl rfl ?_
    refine zv_ald hB zd290_17 rfl rfl rfl ?_
    refine zv_getr hB zd290_18 rfl ?_
    refine zv_con hB zd290_21 rfl ?_
    refine zv_ild hB zd290_23 rfl rfl ?_
    refine zv_addw hB zd290_24 ?_
    obtain ⟨c6, h⟩ := zi_if h
    refine zv_iald hB zd290_25 rfl rfl (zi_ix_ok c6).1 (zi_ix_ok c6).2 (fun _ _ => ?_)
    refine zv_ild hB zd290_26 rfl rfl ?_
    obtain ⟨r7, hr7, h⟩ := zi_bind h
    refine zv_cv hB (zv_emq (va2 := [.inr 0, .inl (r5.1 (zi_w (120 + x1))), .inl x2]) (F := [.inl f0]) (F' := [.inl f0]) (G := [r5.1, g1, r5.2.1, g3, g4, g5, r5.2.2, g7]) (G' := [r5.1, g1, r7.2.1, g3, g4, g5, r7.2.2, g7]) (ρ := [0, 1, 2, 3, 4, 5, 6, 7]) (φ := [0]) (ψ := [0, 1, 2, 3, 4, 5, 6]) [some 0] [some 0, some 1, some 2, some 3, some 4, some 5, some 6, none] zyw_M_steersFrom zyw_M_steers zye_M_steers (by decide +kernel) (zt_M_steersFrom hr7) ⟨⟨_, rfl, fun _ => rfl⟩, trivial⟩ ⟨rfl, rfl, rfl, rfl, rfl, rfl, rfl, trivial⟩ rfl rfl rfl rfl rfl rfl rfl) zd290_27 zxt292 rfl (by decide) (by decide) rfl ?_
    refine zv_iast hB zd290_30 rfl rfl (zi_ix_ok c6).1 (zi_ix_ok c6).2 ?_
    refine zv_ald hB zd290_31 rfl rfl rfl ?_
    obtain ⟨r8, hr8, h⟩ := zi_bind h
    refine zv_cv hB (zv_emq (va2 := [.inr 0]) (F := [.inl f0]) (F' := [.inl f0]) (G := [(zv_up r5.1 (zi_w (120 + x1)) r7.1), g1, r7.2.1, g3, g4, g5, r7.2.2, g7]) (G' := [r8, g1, r7.2.1, g3, g4, g5, r7.2.2, g7]) (ρ := [0, 1]) (φ := []) (ψ := [0]) [none] [some 0, none, none, none, none, none, none, none] zyw_M_passes zyw_M_steers zye_M_steers (by decide +kernel) (zt_M_passes hr8) trivial ⟨rfl, trivial⟩ rfl rfl rfl rfl rfl rfl rfl) zd290_32 zxt294 rfl (by decide) (by decide) rfl ?_
    have hw := Option.some.inj h
    subst hw
    exact hvret _ _ _ _ zd290_35 trivial ⟨rfl, rfl, rfl⟩
end
section
/-! Methods as functions, and that they do what these do. -/
/-! M_steered (IIIZ)I -/
-- names: 0 StarTalesModel('arg', 0), 1 (0, 422)(0, 12, 0), 2 (0, 14)(0, 12, 21), 3 (0, 13)(0, 12, 26), 4 (0, 14)(0, 12, 23), 5 (0, 14)(0, 12, 24), 6 (0, 220)(0, 12, 20), 7 (0, 220)(0, 12, 25), 8 (0, 14)(0, 12, 22)
-- fields: f0 = 0.clauses_; arrays: g0 = 1, g1 = 2, g2 = 3, g3 = 4, g4 = 5, g5 = 6, g6 = 7, g7 = 8; out: [('ret', None), ('g', 0), ('g', 2), ('g', 6)]
abbrev zy_M_steered : zNL := (9, [(0, 12)], [(0, 12, 13, 0)], [(0, 12, 0, 1), (0, 12, 21, 2), (0, 12, 26, 3), (0, 12, 23, 4), (0, 12, 24, 5), (0, 12, 20, 6), (0, 12, 25, 7), (0, 12, 22, 8)], [(1, 0, 422, 0), (2, 0, 14, 1), (3, 0, 13, 2), (4, 0, 14, 3), (5, 0, 14, 4), (6, 0, 220, 5), (7, 0, 220, 6), (8, 0, 14, 7)])
theorem zyw_M_steered : zv_wf zy_M_steered = true := by decide +kernel
theorem zye_M_steered : zv_ek2 zy_M_steered = true := by decide +kernel
def zf_M_steered_l0_b (x1 : Int) (x2 : Int) (x3 : Int) (x4 : Int) (f0 : Int) (g1 : (Int → Int)) (g3 : (Int → Int)) (g4 : (Int → Int)) (g5 : (Int → Int)) (g7 : (Int → Int)) (rec : Int → (Int → Int) → (Int → Int) → (Int → Int) → Option ((Int → Int) × (Int → Int) × (Int → Int))) (x5 : Int) (g0 : (Int → Int)) (g2 : (Int → Int)) (g6 : (Int → Int)) : Option ((Int → Int) × (Int → Int) × (Int → Int)) := if x5 < x3 then ((zf_M_steers x1 x2 x4 f0 g0 g1 g2 g3 g4 g5 g6 g7).bind fun r8 => (rec (zi_w (x5 + 1)) r8.1 r8.2.1 r8.2.2)) else (some (g0, g2, g6))
def zf_M_steered_l0 (x1 : Int) (x2 : Int) (x3 : Int) (x4 : Int) (f0 : Int) (g1 : (Int → Int)) (g3 : (Int → Int)) (g4 : (Int → Int)) (g5 : (Int → Int)) (g7 : (Int → Int)) : Nat → Int → (Int → Int) → (Int → Int) → (Int → Int) → Option ((Int → Int) × (Int → Int) × (Int → Int))
  | 0, _, _, _, _ => none
  | n + 1, x5, g0, g2, g6 => zf_M_steered_l0_b x1 x2 x3 x4 f0 g1 g3 g4 g5 g7 (zf_M_steered_l0 x1 x2 x3 x4 f0 g1 g3 g4 g5 g7 n) x5 g0 g2 g6
def zf_M_steered (x1 : Int) (x2 : Int) (x3 : Int) (x4 : Int) (f0 : Int) (g0 : (Int → Int)) (g1 : (Int → Int)) (g2 : (Int → Int)) (g3 : (Int → Int)) (g4 : (Int → Int)) (g5 : (Int → Int)) (g6 : (Int → Int)) (g7 : (Int → Int)) : Option (Int × (Int → Int) × (Int → Int) × (Int → Int)) := (zf_M_isShip x1 g0).bind fun r1 => (if r1 = 0 then (some ((-1), g0, g2, g6)) else ((zf_M_isTold x2 g0).bind fun r3 => (if r3 = 0 then (some ((-1), g0, g2, g6)) else ((zf_M_in x3 1 48).bind fun r5 => (if r5 = 0 then (some ((-1), g0, g2, g6)) else ((zf_M_steered_l0 x1 x2 x3 x4 f0 g1 g3 g4 g5 g7 zi_fu 0 g0 g2 g6).bind fun q9 => (cond (zi_ix (zi_w (120 + x1)) 422) (some ((q9.1 (zi_w (120 + x1))), q9.1, q9.2.1, q9.2.2)) none)))))))
theorem zd289_0 : decode zxm289.2.1 0 = .ok (.aload_n 0, 1) := by decide +kernel
theorem zd289_1 : decode zxm289.2.1 1 = .ok (.iload_n 1, 1) := by decide +kernel
theorem zd289_2 : decode zxm289.2.1 2 = .ok (.invokevirtual 162, 3) := by decide +kernel
theorem zd289_5 : decode zxm289.2.1 5 = .ok (.ifCond .eq 21, 3) := by decide +kernel
theorem zd289_8 : decode zxm289.2.1 8 = .ok (.aload_n 0, 1) := by decide +kernel
theorem zd289_9 : decode zxm289.2.1 9 = .ok (.iload_n 2, 1) := by decide +kernel
theorem zd289_10 : decode zxm289.2.1 10 = .ok (.invokevirtual 157, 3) := by decide +kernel
theorem zd289_13 : decode zxm289.2.1 13 = .ok (.ifCond .eq 13, 3) := by decide +kernel
theorem zd289_16 : decode zxm289.2.1 16 = .ok (.iload_n 3, 1) := by decide +kernel
theorem zd289_17 : decode zxm289.2.1 17 = .ok (.iconst 1, 1) := by decide +kernel
theorem zd289_18 : decode zxm289.2.1 18 = .ok (.bipush 48, 2) := by decide +kernel
theorem zd289_20 : decode zxm289.2.1 20 = .ok (.invokestatic 150, 3) := by decide +kernel
theorem zd289_23 : decode zxm289.2.1 23 = .ok (.ifCond .ne 5, 3) := by decide +kernel
theorem zd289_26 : decode zxm289.2.1 26 = .ok (.iconst (-1), 1) := by decide +kernel
theorem zd289_27 : decode zxm289.2.1 27 = .ok (.ireturn, 1) := by decide +kernel
theorem zd289_28 : decode zxm289.2.1 28 = .ok (.iconst 0, 1) := by decide +kernel
theorem zd289_29 : decode zxm289.2.1 29 = .ok (.istore 5, 2) := by decide +kernel
theorem zd289_31 : decode zxm289.2.1 31 = .ok (.iload 5, 2) := by decide +kernel
theorem zd289_33 : decode zxm289.2.1 33 = .ok (.iload_n 3, 1) := by decide +kernel
theorem zd289_34 : decode zxm289.2.1 34 = .ok (.if_icmp .ge 17, 3) := by decide +kernel
theorem zd289_37 : decode zxm289.2.1 37 = .ok (.aload_n 0, 1) := by decide +kernel
theorem zd289_38 : decode zxm289.2.1 38 = .ok (.iload_n 1, 1) := by decide +kernel
theorem zd289_39 : decode zxm289.2.1 39 = .ok (.iload_n 2, 1) := by decide +kernel
theorem zd289_40 : decode zxm289.2.1 40 = .ok (.iload 4, 2) := by decide +kernel
theorem zd289_42 : decode zxm289.2.1 42 = .ok (.invokevirtual 430, 3) := by decide +kernel
theorem zd289_45 : decode zxm289.2.1 45 = .ok (.iinc 5 1, 3) := by decide +kernel
theorem zd289_48 : decode zxm289.2.1 48 = .ok (.goto (-17), 3) := by decide +kernel
theorem zd289_51 : decode zxm289.2.1 51 = .ok (.aload_n 0, 1) := by decide +kernel
theorem zd289_52 : decode zxm289.2.1 52 = .ok (.getfield 7, 3) := by decide +kernel
theorem zd289_55 : decode zxm289.2.1 55 = .ok (.bipush 120, 2) := by decide +kernel
theorem zd289_57 : decode zxm289.2.1 57 = .ok (.iload_n 1, 1) := by decide +kernel
theorem zd289_58 : decode zxm289.2.1 58 = .ok (.iadd, 1) := by decide +kernel
theorem zd289_59 : decode zxm289.2.1 59 = .ok (.iaload, 1) := by decide +kernel
theorem zd289_60 : decode zxm289.2.1 60 = .ok (.ireturn, 1) := by decide +kernel
theorem zt_M_steered {x1 : Int} {x2 : Int} {x3 : Int} {x4 : Int} {f0 : Int} {g0 : (Int → Int)} {g1 : (Int → Int)} {g2 : (Int → Int)} {g3 : (Int → Int)} {g4 : (Int → Int)} {g5 : (Int → Int)} {g6 : (Int → Int)} {g7 : (Int → Int)} {o : Int × (Int → Int) × (Int → Int) × (Int → Int)} (h : zf_M_steered x1 x2 x3 x4 f0 g0 g1 g2 g3 g4 g5 g6 g7 = some o) : zv_Fn z_TB z_cl z_KX zy_M_steered zxm289 (6, 360) [.inr 0, .inl x1, .inl x2, .inl x3, .inl x4] [.inl f0] [g0, g1, g2, g3, g4, g5, g6, g7] (some o.1) [.inl f0] [o.2.1, g1, o.2.2.1, g3, g4, g5, o.2.2.2, g7] := zv_meth (K := (z_KF13, z_KC13, z_KL13, z_KT13, [], [], [], none)) (FT := z_FT) (MT := z_MT) (n := 5) zxp289 (z_ks13 _ (fun _ h => List.mem_cons_of_mem _ h) _ _ _ _ (fun j r h _ => by cases h)) (fun _ _ => zs_KX_p) zyw_M_steered (fun va F G h => by obtain ⟨rfl, _⟩ := h; rfl) (fun va F G h => by obtain ⟨rfl, _⟩ := h; rfl) rfl fun good va F G hB hret hvret hP => by
  obtain ⟨rfl, rfl, rfl⟩ := hP
  have l0 : ∀ (n : Nat) (x1 : Int) (x2 : Int) (x3 : Int) (x4 : Int) (x5 : Int) (g0 : (Int → Int)) (g2 : (Int → Int)) (g6 : (Int → Int)) (q : (Int → Int) × (Int → Int) × (Int → Int)), zf_M_steered_l0 x1 x2 x3 x4 f0 g1 g3 g4 g5 g7 n x5 g0 g2 g6 = some q → (good 51 [.inr 0, .inl x1, .inr 1000, .inr 1000, .inr 1000, .inr 1000] [] [.inl f0] [q.1, g1, q.2.1, g3, g4, g5, q.2.2, g7]) → good 31 [.inr 0, .inl x1, .inl x2, .inl x3, .inl x4, .inl x5] [] [.inl f0] [g0, g1, g2, g3, g4, g5, g6, g7] := by
    intro n
    induction n with
    | zero => intro x1 x2 x3 x4 x5 g0 g2 g6 q h; exact absurd (show none = some q from h) (fun h => by cases h)
    | succ n ih =>
      intro x1 x2 x3 x4 x5 g0 g2 g6 q h hK
      replace h : zf_M_steered_l0_b x1 x2 x3 x4 f0 g1 g3 g4 g5 g7 (zf_M_steered_l0 x1 x2 x3 x4 f0 g1 g3 g4 g5 g7 n) x5 g0 g2 g6 = some q := h
      unfold zf_M_steered_l0_b at h
      refine zv_ild hB zd289_31 rfl rfl ?_
      refine zv_ild hB zd289_33 rfl rfl ?_
      refine zv_cge hB zd289_34 rfl (fun hc7 => ?_) (fun hc7 => ?_)
      · rw [if_neg (Int.not_lt.mpr hc7)] at h
        have hq := Option.some.inj h
        subst hq
        refine zv_wk hB (L' := [.inr 0, .inl x1, .inr 1000, .inr 1000, .inr 1000, .inr 1000]) (F' := [.inl f0]) ⟨fun _ => rfl, fun _ => rfl, fun (h : zv_is (.inr 1000)) => (Nat.lt_irrefl 1000 h).elim, fun (h : zv_is (.inr 1000)) => (Nat.lt_irrefl 1000 h).elim, fun (h : zv_is (.inr 1000)) => (Nat.lt_irrefl 1000 h).elim, fun (h : zv_is (.inr 1000)) => (Nat.lt_irrefl 1000 h).elim, trivial⟩ ⟨fun _ => rfl, trivial⟩ ?_
        exact hK
      · rw [if_pos hc7] at h
        refine zv_ald hB zd289_37 rfl rfl rfl ?_
        refine zv_ild hB zd289_38 rfl rfl ?_
        refine zv_ild hB zd289_39 rfl rfl ?_
        refine zv_ild hB zd289_40 rfl rfl ?_
        obtain ⟨r8, hr8, h⟩ := zi_bind h
        refine zv_cv hB (zv_emq (va2 := [.inr 0, .inl x1, .inl x2, .inl x4]) (F := [.inl f0]) (F' := [.inl f0]) (G := [g0, g1, g2, g3, g4, g5, g6, g7]) (G' := [r8.1, g1, r8.2.1, g3, g4, g5, r8.2.2, g7]) (ρ := [0, 1, 2, 3, 4, 5, 6, 7, 8]) (φ := [0]) (ψ := [0, 1, 2, 3, 4, 5, 6, 7]) [some 0] [some 0, some 1, some 2, some 3, some 4, some 5, some 6, some 7] zyw_M_steers zyw_M_steered zye_M_steered (by decide +kernel) (zt_M_steers hr8) ⟨⟨_, rfl, fun _ => rfl⟩, trivial⟩ ⟨rfl, rfl, rfl, rfl, rfl, rfl, rfl, rfl, trivial⟩ rfl rfl rfl rfl rfl rfl rfl) zd289_42 zxt290 rfl (by decide) (by decide) rfl ?_
        refine zv_iincw hB zd289_45 rfl rfl ?_
        refine zv_goto hB zd289_48 rfl ?_
        exact ih _ _ _ _ _ _ _ _ q h hK
  unfold zf_M_steered at h
  refine zv_ald hB zd289_0 rfl rfl rfl ?_
  refine zv_ild hB zd289_1 rfl rfl ?_
  obtain ⟨r1, hr1, h⟩ := zi_bind h
  refine zv_cv hB (zv_emq (va2 := [.inr 0, .inl x1]) (F := [.inl f0]) (F' := [.inl f0]) (G := [g0, g1, g2, g3, g4, g5, g6, g7]) (G' := [g0, g1, g2, g3, g4, g5, g6, g7]) (ρ := [0, 1]) (φ := []) (ψ := [0]) [none] [some 0, none, none, none, none, none, none, none] zyw_M_isShip zyw_M_steered zye_M_steered (by decide +kernel) (zt_M_isShip hr1) trivial ⟨rfl, trivial⟩ rfl rfl rfl rfl rfl rfl rfl) zd289_2 zxt210 rfl (by decide) (by decide) rfl ?_
  refine zv_zeq hB zd289_5 rfl (fun hc2 => ?_) (fun hc2 => ?_)
  · rw [if_pos hc2] at h
    refine zv_con hB zd289_26 rfl ?_
    have hw := Option.some.inj h
    subst hw
    exact hret _ _ _ _ _ zd289_27 (by trivial) ⟨rfl, rfl, rfl⟩
  · rw [if_neg hc2] at h
    refine zv_ald hB zd289_8 rfl rfl rfl ?_
    refine zv_ild hB zd289_9 rfl rfl ?_
    obtain ⟨r3, hr3, h⟩ := zi_bind h
    refine zv_cv hB (zv_emq (va2 := [.inr 0, .inl x2]) (F := [.inl f0]) (F' := [.inl f0]) (G := [g0, g1, g2, g3, g4, g5, g6, g7]) (G' := [g0, g1, g2, g3, g4, g5, g6, g7]) (ρ := [0, 1]) (φ := []) (ψ := [0]) [none] [some 0, none, none, none, none, none, none, none] zyw_M_isTold zyw_M_steered zye_M_steered (by decide +kernel) (zt_M_isTold hr3) trivial ⟨rfl, trivial⟩ rfl rfl rfl rfl rfl rfl rfl) zd289_10 zxt203 rfl (by decide) (by decide) rfl ?_
    refine zv_zeq hB zd289_13 rfl (fun hc4 => ?_) (fun hc4 => ?_)
    · rw [if_pos hc4] at h
      refine zv_con hB zd289_26 rfl ?_
      have hw := Option.some.inj h
      subst hw
      exact hret _ _ _ _ _ zd289_27 (by trivial) ⟨rfl, rfl, rfl⟩
    · rw [if_neg hc4] at h
      refine zv_ild hB zd289_16 rfl rfl ?_
      refine zv_con hB zd289_17 rfl ?_
      refine zv_con hB zd289_18 rfl ?_
      obtain ⟨r5, hr5, h⟩ := zi_bind h
      refine zv_cs hB (zv_emq (va2 := [.inl x3, .inl 1, .inl 48]) (F := [.inl f0]) (F' := [.inl f0]) (G := [g0, g1, g2, g3, g4, g5, g6, g7]) (G' := [g0, g1, g2, g3, g4, g5, g6, g7]) (ρ := []) (φ := []) (ψ := []) [none] [none, none, none, none, none, none, none, none] zyw_M_in zyw_M_steered zye_M_steered (by decide +kernel) (zt_M_in hr5) trivial trivial rfl rfl rfl rfl rfl rfl rfl) zd289_20 zxt200 rfl (by decide) (by decide) rfl ?_
      refine zv_zne hB zd289_23 rfl (fun hc6 => ?_) (fun hc6 => ?_)
      · rw [if_neg hc6] at h
        refine zv_con hB zd289_28 rfl ?_
        refine zv_ist hB zd289_29 rfl rfl rfl ?_
        obtain ⟨q9, hq9, h⟩ := zi_bind h
        refine l0 _ _ _ _ _ _ _ _ _ q9 hq9 ?_
        show good 51 [.inr 0, .inl x1, .inr 1000, .inr 1000, .inr 1000, .inr 1000] [] [.inl f0] [q9.1, g1, q9.2.1, g3, g4, g5, q9.2.2, g7]
        refine zv_ald hB zd289_51 rfl rfl rfl ?_
        refine zv_getr hB zd289_52 rfl ?_
        refine zv_con hB zd289_55 rfl ?_
        refine zv_ild hB zd289_57 rfl rfl ?_
        refine zv_addw hB zd289_58 ?_
        obtain ⟨c10, h⟩ := zi_if h
        refine zv_iald hB zd289_59 rfl rfl (zi_ix_ok c10).1 (zi_ix_ok c10).2 (fun _ _ => ?_)
        have hw := Option.some.inj h
        subst hw
        exact hret _ _ _ _ _ zd289_60 (by trivial) ⟨rfl, rfl, rfl⟩
      · rw [if_pos hc6] at h
        refine zv_con hB zd289_26 rfl ?_
        have hw := Option.some.inj h
        subst hw
        exact hret _ _ _ _ _ zd289_27 (by trivial) ⟨rfl, rfl, rfl⟩
/-! M_hours (I)I -/
-- names: 0 StarTalesModel('arg', 0), 1 (0, 422)(0, 12, 0)
-- fields: ; arrays: g0 = 1; out: [('ret', None), ('g', 0)]
abbrev zy_M_hours : zNL := (2, [(0, 12)], [], [(0, 12, 0, 1)], [(1, 0, 422, 0)])
theorem zyw_M_hours : zv_wf zy_M_hours = true := by decide +kernel
theorem zye_M_hours : zv_ek2 zy_M_hours = true := by decide +kernel
def zf_M_hours_l0_b (x1 : Int) (rec : Int → (Int → Int) → Option ((Int → Int))) (x2 : Int) (g0 : (Int → Int)) : Option ((Int → Int)) := if x2 < x1 then ((zf_M_passes g0).bind fun r4 => (rec (zi_w (x2 + 1)) r4)) else (some g0)
def zf_M_hours_l0 (x1 : Int) : Nat → Int → (Int → Int) → Option ((Int → Int))
  | 0, _, _ => none
  | n + 1, x2, g0 => zf_M_hours_l0_b x1 (zf_M_hours_l0 x1 n) x2 g0
def zf_M_hours (x1 : Int) (g0 : (Int → Int)) : Option (Int × (Int → Int)) := (zf_M_in x1 1 240).bind fun r1 => (if r1 = 0 then (some ((-1), g0)) else ((zf_M_hours_l0 x1 zi_fu 0 g0).bind fun q5 => (some ((q5 129), q5))))
theorem zd297_0 : decode zxm297.2.1 0 = .ok (.iload_n 1, 1) := by decide +kernel
theorem zd297_1 : decode zxm297.2.1 1 = .ok (.iconst 1, 1) := by decide +kernel
theorem zd297_2 : decode zxm297.2.1 2 = .ok (.sipush 240, 3) := by decide +kernel
theorem zd297_5 : decode zxm297.2.1 5 = .ok (.invokestatic 150, 3) := by decide +kernel
theorem zd297_8 : decode zxm297.2.1 8 = .ok (.ifCond .ne 5, 3) := by decide +kernel
theorem zd297_11 : decode zxm297.2.1 11 = .ok (.iconst (-1), 1) := by decide +kernel
theorem zd297_12 : decode zxm297.2.1 12 = .ok (.ireturn, 1) := by decide +kernel
theorem zd297_13 : decode zxm297.2.1 13 = .ok (.iconst 0, 1) := by decide +kernel
theorem zd297_14 : decode zxm297.2.1 14 = .ok (.istore_n 2, 1) := by decide +kernel
theorem zd297_15 : decode zxm297.2.1 15 = .ok (.iload_n 2, 1) := by decide +kernel
theorem zd297_16 : decode zxm297.2.1 16 = .ok (.iload_n 1, 1) := by decide +kernel
theorem zd297_17 : decode zxm297.2.1 17 = .ok (.if_icmp .ge 13, 3) := by decide +kernel
theorem zd297_20 : decode zxm297.2.1 20 = .ok (.aload_n 0, 1) := by decide +kernel
theorem zd297_21 : decode zxm297.2.1 21 = .ok (.invokevirtual 427, 3) := by decide +kernel
theorem zd297_24 : decode zxm297.2.1 24 = .ok (.iinc 2 1, 3) := by decide +kernel
theorem zd297_27 : decode zxm297.2.1 27 = .ok (.goto (-12), 3) := by decide +kernel
theorem zd297_30 : decode zxm297.2.1 30 = .ok (.aload_n 0, 1) := by decide +kernel
theorem zd297_31 : decode zxm297.2.1 31 = .ok (.getfield 7, 3) := by decide +kernel
theorem zd297_34 : decode zxm297.2.1 34 = .ok (.sipush 129, 3) := by decide +kernel
theorem zd297_37 : decode zxm297.2.1 37 = .ok (.iaload, 1) := by decide +kernel
theorem zd297_38 : decode zxm297.2.1 38 = .ok (.ireturn, 1) := by decide +kernel
theorem zt_M_hours {x1 : Int} {g0 : (Int → Int)} {o : Int × (Int → Int)} (h : zf_M_hours x1 g0 = some o) : zv_Fn z_TB z_cl z_KX zy_M_hours zxm297 (4, 240) [.inr 0, .inl x1] [] [g0] (some o.1) [] [o.2] := zv_meth (K := (z_KF13, z_KC13, z_KL13, z_KT13, [], [], [], none)) (FT := z_FT) (MT := z_MT) (n := 2) zxp297 (z_ks13 _ (fun _ h => List.mem_cons_of_mem _ h) _ _ _ _ (fun j r h _ => by cases h)) (fun _ _ => zs_KX_p) zyw_M_hours (fun va F G h => by obtain ⟨rfl, _⟩ := h; rfl) (fun va F G h => by obtain ⟨rfl, _⟩ := h; rfl) rfl fun good va F G hB hret hvret hP => by
  obtain ⟨rfl, rfl, rfl⟩ := hP
  have l0 : ∀ (n : Nat) (x1 : Int) (x2 : Int) (g0 : (Int → Int)) (q : (Int → Int)), zf_M_hours_l0 x1 n x2 g0 = some q → (good 30 [.inr 0, .inr 1000, .inr 1000] [] [] [q]) → good 15 [.inr 0, .inl x1, .inl x2] [] [] [g0] := by
    intro n
    induction n with
    | zero => intro x1 x2 g0 q h; exact absurd (show none = some q from h) (fun h => by cases h)
    | succ n ih =>
      intro x1 x2 g0 q h hK
      replace h : zf_M_hours_l0_b x1 (zf_M_hours_l0 x1 n) x2 g0 = some q := h
      unfold zf_M_hours_l0_b at h
      refine zv_ild hB zd297_15 rfl rfl ?_
      refine zv_ild hB zd297_16 rfl rfl ?_
      refine zv_cge hB zd297_17 rfl (fun hc3 => ?_) (fun hc3 => ?_)
      · rw [if_neg (Int.not_lt.mpr hc3)] at h
        have hq := Option.some.inj h
        subst hq
        refine zv_wk hB (L' := [.inr 0, .inr 1000, .inr 1000]) (F' := []) ⟨fun _ => rfl, fun (h : zv_is (.inr 1000)) => (Nat.lt_irrefl 1000 h).elim, fun (h : zv_is (.inr 1000)) => (Nat.lt_irrefl 1000 h).elim, trivial⟩ trivial ?_
        exact hK
      · rw [if_pos hc3] at h
        refine zv_ald hB zd297_20 rfl rfl rfl ?_
        obtain ⟨r4, hr4, h⟩ := zi_bind h
        refine zv_cv hB (zv_emq (va2 := [.inr 0]) (F := []) (F' := []) (G := [g0]) (G' := [r4]) (ρ := [0, 1]) (φ := []) (ψ := [0]) [] [some 0] zyw_M_passes zyw_M_hours zye_M_hours (by decide +kernel) (zt_M_passes hr4) trivial ⟨rfl, trivial⟩ rfl rfl rfl rfl rfl rfl rfl) zd297_21 zxt294 rfl (by decide) (by decide) rfl ?_
        refine zv_iincw hB zd297_24 rfl rfl ?_
        refine zv_goto hB zd297_27 rfl ?_
        exact ih _ _ _ q h hK
  unfold zf_M_hours at h
  refine zv_ild hB zd297_0 rfl rfl ?_
  refine zv_con hB zd297_1 rfl ?_
  refine zv_con hB zd297_2 rfl ?_
  obtain ⟨r1, hr1, h⟩ := zi_bind h
  refine zv_cs hB (zv_emq (va2 := [.inl x1, .inl 1, .inl 240]) (F := []) (F' := []) (G := [g0]) (G' := [g0]) (ρ := []) (φ := []) (ψ := []) [] [none] zyw_M_in zyw_M_hours zye_M_hours (by decide +kernel) (zt_M_in hr1) trivial trivial rfl rfl rfl rfl rfl rfl rfl) zd297_5 zxt200 rfl (by decide) (by decide) rfl ?_
  refine zv_zne hB zd297_8 rfl (fun hc2 => ?_) (fun hc2 => ?_)
  · rw [if_neg hc2] at h
    refine zv_con hB zd297_13 rfl ?_
    refine zv_ist hB zd297_14 rfl rfl rfl ?_
    obtain ⟨q5, hq5, h⟩ := zi_bind h
    refine l0 _ _ _ _ q5 hq5 ?_
    show good 30 [.inr 0, .inr 1000, .inr 1000] [] [] [q5]
    refine zv_ald hB zd297_30 rfl rfl rfl ?_
    refine zv_getr hB zd297_31 rfl ?_
    refine zv_con hB zd297_34 rfl ?_
    refine zv_iald hB zd297_37 rfl rfl (by decide) (by decide) (fun _ _ => ?_)
    have hw := Option.some.inj h
    subst hw
    exact hret _ _ _ _ _ zd297_38 (by trivial) ⟨rfl, rfl, rfl⟩
  · rw [if_pos hc2] at h
    refine zv_con hB zd297_11 rfl ?_
    have hw := Option.some.inj h
    subst hw
    exact hret _ _ _ _ _ zd297_12 (by trivial) ⟨rfl, rfl, rfl⟩
/-! M_copies_422_422 ([I[I)V -/
-- names: 0 (0, 422)('arg', 0), 1 (0, 422)('arg', 1)
-- fields: ; arrays: g0 = 0, g1 = 1; out: [('g', 1)]
abbrev zy_M_copies_422_422 : zNL := (2, [], [], [], [(0, 0, 422, 0), (1, 0, 422, 1)])
theorem zyw_M_copies_422_422 : zv_wf zy_M_copies_422_422 = true := by decide +kernel
theorem zye_M_copies_422_422 : zv_ek2 zy_M_copies_422_422 = true := by decide +kernel
def zf_M_copies_422_422_l0_b (g0 : (Int → Int)) (rec : Int → (Int → Int) → Option ((Int → Int))) (x2 : Int) (g1 : (Int → Int)) : Option ((Int → Int)) := if x2 < 422 then (cond (zi_ix x2 422) (rec (zi_w (x2 + 1)) (zv_up g1 x2 (g0 x2))) none) else (some g1)
def zf_M_copies_422_422_l0 (g0 : (Int → Int)) : Nat → Int → (Int → Int) → Option ((Int → Int))
  | 0, _, _ => none
  | n + 1, x2, g1 => zf_M_copies_422_422_l0_b g0 (zf_M_copies_422_422_l0 g0 n) x2 g1
def zf_M_copies_422_422 (g0 : (Int → Int)) (g1 : (Int → Int)) : Option ((Int → Int)) := (zf_M_copies_422_422_l0 g0 zi_fu 0 g1).bind fun q3 => (some q3)
theorem zd300_0 : decode zxm300.2.1 0 = .ok (.iconst 0, 1) := by decide +kernel
theorem zd300_1 : decode zxm300.2.1 1 = .ok (.istore_n 2, 1) := by decide +kernel
theorem zd300_2 : decode zxm300.2.1 2 = .ok (.iload_n 2, 1) := by decide +kernel
theorem zd300_3 : decode zxm300.2.1 3 = .ok (.sipush 422, 3) := by decide +kernel
theorem zd300_6 : decode zxm300.2.1 6 = .ok (.if_icmp .ge 15, 3) := by decide +kernel
theorem zd300_9 : decode zxm300.2.1 9 = .ok (.aload_n 1, 1) := by decide +kernel
theorem zd300_10 : decode zxm300.2.1 10 = .ok (.iload_n 2, 1) := by decide +kernel
theorem zd300_11 : decode zxm300.2.1 11 = .ok (.aload_n 0, 1) := by decide +kernel
theorem zd300_12 : decode zxm300.2.1 12 = .ok (.iload_n 2, 1) := by decide +kernel
theorem zd300_13 : decode zxm300.2.1 13 = .ok (.iaload, 1) := by decide +kernel
theorem zd300_14 : decode zxm300.2.1 14 = .ok (.iastore, 1) := by decide +kernel
theorem zd300_15 : decode zxm300.2.1 15 = .ok (.iinc 2 1, 3) := by decide +kernel
theorem zd300_18 : decode zxm300.2.1 18 = .ok (.goto (-16), 3) := by decide +kernel
theorem zd300_21 : decode zxm300.2.1 21 = .ok (.return_, 1) := by decide +kernel
theorem zt_M_copies_422_422 {g0 : (Int → Int)} {g1 : (Int → Int)} {o : (Int → Int)} (h : zf_M_copies_422_422 g0 g1 = some o) : zv_Fn z_TB z_cl z_KX zy_M_copies_422_422 zxm300 (0, 0) [.inr 0, .inr 1] [] [g0, g1] none [] [g0, o] := zv_meth (K := (z_KF13, z_KC13, z_KL13, z_KT13, [], [], [], none)) (FT := z_FT) (MT := z_MT) (n := 2) zxp300 (z_ks13 _ (fun _ h => List.mem_cons_of_mem _ h) _ _ _ _ (fun j r h _ => by cases h)) (fun _ _ => zs_KX_p) zyw_M_copies_422_422 (fun va F G h => by obtain ⟨rfl, _⟩ := h; rfl) (fun va F G h => by obtain ⟨rfl, _⟩ := h; rfl) rfl fun good va F G hB hret hvret hP => by
  obtain ⟨rfl, rfl, rfl⟩ := hP
  have l0 : ∀ (n : Nat) (x2 : Int) (g1 : (Int → Int)) (q : (Int → Int)), zf_M_copies_422_422_l0 g0 n x2 g1 = some q → (good 21 [.inr 1000, .inr 1000, .inr 1000] [] [] [g0, q]) → good 2 [.inr 0, .inr 1, .inl x2] [] [] [g0, g1] := by
    intro n
    induction n with
    | zero => intro x2 g1 q h; exact absurd (show none = some q from h) (fun h => by cases h)
    | succ n ih =>
      intro x2 g1 q h hK
      replace h : zf_M_copies_422_422_l0_b g0 (zf_M_copies_422_422_l0 g0 n) x2 g1 = some q := h
      unfold zf_M_copies_422_422_l0_b at h
      refine zv_ild hB zd300_2 rfl rfl ?_
      refine zv_con hB zd300_3 rfl ?_
      refine zv_cge hB zd300_6 rfl (fun hc1 => ?_) (fun hc1 => ?_)
      · rw [if_neg (Int.not_lt.mpr hc1)] at h
        have hq := Option.some.inj h
        subst hq
        refine zv_wk hB (L' := [.inr 1000, .inr 1000, .inr 1000]) (F' := []) ⟨fun (h : zv_is (.inr 1000)) => (Nat.lt_irrefl 1000 h).elim, fun (h : zv_is (.inr 1000)) => (Nat.lt_irrefl 1000 h).elim, fun (h : zv_is (.inr 1000)) => (Nat.lt_irrefl 1000 h).elim, trivial⟩ trivial ?_
        exact hK
      · rw [if_pos hc1] at h
        refine zv_ald hB zd300_9 rfl rfl rfl ?_
        refine zv_ild hB zd300_10 rfl rfl ?_
        refine zv_ald hB zd300_11 rfl rfl rfl ?_
        refine zv_ild hB zd300_12 rfl rfl ?_
        obtain ⟨c2, h⟩ := zi_if h
        refine zv_iald hB zd300_13 rfl rfl (zi_ix_ok c2).1 (zi_ix_ok c2).2 (fun _ _ => ?_)
        refine zv_iast hB zd300_14 rfl rfl (zi_ix_ok c2).1 (zi_ix_ok c2).2 ?_
        refine zv_iincw hB zd300_15 rfl rfl ?_
        refine zv_goto hB zd300_18 rfl ?_
        exact ih _ _ q h hK
  unfold zf_M_copies_422_422 at h
  refine zv_con hB zd300_0 rfl ?_
  refine zv_ist hB zd300_1 rfl rfl rfl ?_
  obtain ⟨q3, hq3, h⟩ := zi_bind h
  refine l0 _ _ _ q3 hq3 ?_
  show good 21 [.inr 1000, .inr 1000, .inr 1000] [] [] [g0, q3]
  have hw := Option.some.inj h
  subst hw
  exact hvret _ _ _ _ zd300_21 trivial ⟨rfl, rfl, rfl⟩
/-! M_begins ()V -/
-- names: 0 StarTalesModel('arg', 0), 1 (0, 422)(0, 12, 0), 2 (0, 422)(0, 12, 1)
-- fields: ; arrays: g0 = 1, g1 = 2; out: [('g', 1)]
abbrev zy_M_begins : zNL := (3, [(0, 12)], [], [(0, 12, 0, 1), (0, 12, 1, 2)], [(1, 0, 422, 0), (2, 0, 422, 1)])
theorem zyw_M_begins : zv_wf zy_M_begins = true := by decide +kernel
theorem zye_M_begins : zv_ek2 zy_M_begins = true := by decide +kernel
def zf_M_begins (g0 : (Int → Int)) (g1 : (Int → Int)) : Option ((Int → Int)) := (zf_M_copies_422_422 g0 g1).bind fun r1 => (some r1)
theorem zd299_0 : decode zxm299.2.1 0 = .ok (.aload_n 0, 1) := by decide +kernel
theorem zd299_1 : decode zxm299.2.1 1 = .ok (.getfield 7, 3) := by decide +kernel
theorem zd299_4 : decode zxm299.2.1 4 = .ok (.aload_n 0, 1) := by decide +kernel
theorem zd299_5 : decode zxm299.2.1 5 = .ok (.getfield 13, 3) := by decide +kernel
theorem zd299_8 : decode zxm299.2.1 8 = .ok (.invokestatic 134, 3) := by decide +kernel
theorem zd299_11 : decode zxm299.2.1 11 = .ok (.return_, 1) := by decide +kernel
theorem zt_M_begins {g0 : (Int → Int)} {g1 : (Int → Int)} {o : (Int → Int)} (h : zf_M_begins g0 g1 = some o) : zv_Fn z_TB z_cl z_KX zy_M_begins zxm299 (1, 60) [.inr 0] [] [g0, g1] none [] [g0, o] := zv_meth (K := (z_KF13, z_KC13, z_KL13, z_KT13, [], [], [], none)) (FT := z_FT) (MT := z_MT) (n := 1) zxp299 (z_ks13 _ (fun _ h => List.mem_cons_of_mem _ h) _ _ _ _ (fun j r h _ => by cases h)) (fun _ _ => zs_KX_p) zyw_M_begins (fun va F G h => by obtain ⟨rfl, _⟩ := h; rfl) (fun va F G h => by obtain ⟨rfl, _⟩ := h; rfl) rfl fun good va F G hB hret hvret hP => by
  obtain ⟨rfl, rfl, rfl⟩ := hP
  unfold zf_M_begins at h
  refine zv_ald hB zd299_0 rfl rfl rfl ?_
  refine zv_getr hB zd299_1 rfl ?_
  refine zv_ald hB zd299_4 rfl rfl rfl ?_
  refine zv_getr hB zd299_5 rfl ?_
  obtain ⟨r1, hr1, h⟩ := zi_bind h
  refine zv_cs hB (zv_emq (va2 := [.inr 1, .inr 2]) (F := []) (F' := []) (G := [g0, g1]) (G' := [g0, r1]) (ρ := [1, 2]) (φ := []) (ψ := [0, 1]) [] [some 0, some 1] zyw_M_copies_422_422 zyw_M_begins zye_M_begins (by decide +kernel) (zt_M_copies_422_422 hr1) trivial ⟨rfl, rfl, trivial⟩ rfl rfl rfl rfl rfl rfl rfl) zd299_8 zxt300 rfl (by decide) (by decide) rfl ?_
  have hw := Option.some.inj h
  subst hw
  exact hvret _ _ _ _ zd299_11 trivial ⟨rfl, rfl, rfl⟩
/-! M_again ()V -/
-- names: 0 StarTalesModel('arg', 0), 1 (0, 422)(0, 12, 1), 2 (0, 422)(0, 12, 0)
-- fields: ; arrays: g0 = 1, g1 = 2; out: [('g', 1)]
abbrev zy_M_again : zNL := (3, [(0, 12)], [], [(0, 12, 1, 1), (0, 12, 0, 2)], [(1, 0, 422, 0), (2, 0, 422, 1)])
theorem zyw_M_again : zv_wf zy_M_again = true := by decide +kernel
theorem zye_M_again : zv_ek2 zy_M_again = true := by decide +kernel
def zf_M_again (g0 : (Int → Int)) (g1 : (Int → Int)) : Option ((Int → Int)) := (zf_M_copies_422_422 g0 g1).bind fun r1 => (some r1)
theorem zd301_0 : decode zxm301.2.1 0 = .ok (.aload_n 0, 1) := by decide +kernel
theorem zd301_1 : decode zxm301.2.1 1 = .ok (.getfield 13, 3) := by decide +kernel
theorem zd301_4 : decode zxm301.2.1 4 = .ok (.aload_n 0, 1) := by decide +kernel
theorem zd301_5 : decode zxm301.2.1 5 = .ok (.getfield 7, 3) := by decide +kernel
theorem zd301_8 : decode zxm301.2.1 8 = .ok (.invokestatic 134, 3) := by decide +kernel
theorem zd301_11 : decode zxm301.2.1 11 = .ok (.return_, 1) := by decide +kernel
theorem zt_M_again {g0 : (Int → Int)} {g1 : (Int → Int)} {o : (Int → Int)} (h : zf_M_again g0 g1 = some o) : zv_Fn z_TB z_cl z_KX zy_M_again zxm301 (1, 60) [.inr 0] [] [g0, g1] none [] [g0, o] := zv_meth (K := (z_KF13, z_KC13, z_KL13, z_KT13, [], [], [], none)) (FT := z_FT) (MT := z_MT) (n := 1) zxp301 (z_ks13 _ (fun _ h => List.mem_cons_of_mem _ h) _ _ _ _ (fun j r h _ => by cases h)) (fun _ _ => zs_KX_p) zyw_M_again (fun va F G h => by obtain ⟨rfl, _⟩ := h; rfl) (fun va F G h => by obtain ⟨rfl, _⟩ := h; rfl) rfl fun good va F G hB hret hvret hP => by
  obtain ⟨rfl, rfl, rfl⟩ := hP
  unfold zf_M_again at h
  refine zv_ald hB zd301_0 rfl rfl rfl ?_
  refine zv_getr hB zd301_1 rfl ?_
  refine zv_ald hB zd301_4 rfl rfl rfl ?_
  refine zv_getr hB zd301_5 rfl ?_
  obtain ⟨r1, hr1, h⟩ := zi_bind h
  refine zv_cs hB (zv_emq (va2 := [.inr 1, .inr 2]) (F := []) (F' := []) (G := [g0, g1]) (G' := [g0, r1]) (ρ := [1, 2]) (φ := []) (ψ := [0, 1]) [] [some 0, some 1] zyw_M_copies_422_422 zyw_M_again zye_M_again (by decide +kernel) (zt_M_copies_422_422 hr1) trivial ⟨rfl, rfl, trivial⟩ rfl rfl rfl rfl rfl rfl rfl) zd301_8 zxt300 rfl (by decide) (by decide) rfl ?_
  have hw := Option.some.inj h
  subst hw
  exact hvret _ _ _ _ zd301_11 trivial ⟨rfl, rfl, rfl⟩
/-! M_found ()I -/
-- names: 0 StarTalesModel('arg', 0), 1 (0, 422)(0, 12, 0), 2 (0, 422)(0, 12, 1), 3 (1, 220)(0, 12, 3)
-- fields: f0 = 0.taped_; arrays: g0 = 1, g1 = 2, g2 = 3; out: [('ret', None), ('f', 0), ('g', 0), ('g', 1)]
abbrev zy_M_found : zNL := (4, [(0, 12)], [(0, 12, 4, 0)], [(0, 12, 0, 1), (0, 12, 1, 2), (0, 12, 3, 3)], [(1, 0, 422, 0), (2, 0, 422, 1), (3, 1, 220, 2)])
theorem zyw_M_found : zv_wf zy_M_found = true := by decide +kernel
theorem zye_M_found : zv_ek2 zy_M_found = true := by decide +kernel
def zf_M_found_l0_b (g0 : (Int → Int)) (g2 : (Int → Int)) (rec : Int → Int → Int → Option (Int)) (x1 : Int) (x2 : Int) (x3 : Int) : Option (Int) := if x3 < 24 then ((zf_M_isTold x3 g0).bind fun r7 => (if r7 = 0 then (rec x1 x2 (zi_w (x3 + 1))) else (cond (zi_ix x2 220) (cond (zi_ix (zi_w (0 + x3)) 422) (if (zi_and (g2 x2) 255) = (g0 (zi_w (0 + x3))) then (cond (zi_ix (zi_w (x2 + 1)) 220) (cond (zi_ix (zi_w (24 + x3)) 422) (if (zi_and (g2 (zi_w (x2 + 1))) 255) = (g0 (zi_w (24 + x3))) then (rec x1 (zi_w (x2 + 2)) (zi_w (x3 + 1))) else (rec (zi_or x1 (zi_shl 1 x3)) (zi_w (x2 + 2)) (zi_w (x3 + 1)))) none) none) else (rec (zi_or x1 (zi_shl 1 x3)) (zi_w (x2 + 2)) (zi_w (x3 + 1)))) none) none))) else (some x1)
def zf_M_found_l0 (g0 : (Int → Int)) (g2 : (Int → Int)) : Nat → Int → Int → Int → Option (Int)
  | 0, _, _, _ => none
  | n + 1, x1, x2, x3 => zf_M_found_l0_b g0 g2 (zf_M_found_l0 g0 g2 n) x1 x2 x3
def zf_M_found (f0 : Int) (g0 : (Int → Int)) (g1 : (Int → Int)) (g2 : (Int → Int)) : Option (Int × Int × (Int → Int) × (Int → Int)) := if (g0 126) = 0 then (some ((-1), f0, g0, g1)) else ((zf_M_bits (g0 126)).bind fun r2 => (if f0 < (zi_w (2 * r2)) then (some ((-1), f0, g0, g1)) else ((zf_M_begins g0 g1).bind fun r4 => ((zf_M_walks g0).bind fun r5 => ((zf_M_found_l0 r5 g2 zi_fu 0 0 0).bind fun q15 => ((zf_M_again r4 r5).bind fun r16 => (some (q15, 0, r16, r4))))))))
theorem zd298_0 : decode zxm298.2.1 0 = .ok (.aload_n 0, 1) := by decide +kernel
theorem zd298_1 : decode zxm298.2.1 1 = .ok (.getfield 7, 3) := by decide +kernel
theorem zd298_4 : decode zxm298.2.1 4 = .ok (.bipush 126, 2) := by decide +kernel
theorem zd298_6 : decode zxm298.2.1 6 = .ok (.iaload, 1) := by decide +kernel
theorem zd298_7 : decode zxm298.2.1 7 = .ok (.ifCond .eq 22, 3) := by decide +kernel
theorem zd298_10 : decode zxm298.2.1 10 = .ok (.iconst 2, 1) := by decide +kernel
theorem zd298_11 : decode zxm298.2.1 11 = .ok (.aload_n 0, 1) := by decide +kernel
theorem zd298_12 : decode zxm298.2.1 12 = .ok (.getfield 7, 3) := by decide +kernel
theorem zd298_15 : decode zxm298.2.1 15 = .ok (.bipush 126, 2) := by decide +kernel
theorem zd298_17 : decode zxm298.2.1 17 = .ok (.iaload, 1) := by decide +kernel
theorem zd298_18 : decode zxm298.2.1 18 = .ok (.invokestatic 321, 3) := by decide +kernel
theorem zd298_21 : decode zxm298.2.1 21 = .ok (.imul, 1) := by decide +kernel
theorem zd298_22 : decode zxm298.2.1 22 = .ok (.aload_n 0, 1) := by decide +kernel
theorem zd298_23 : decode zxm298.2.1 23 = .ok (.getfield 168, 3) := by decide +kernel
theorem zd298_26 : decode zxm298.2.1 26 = .ok (.if_icmp .le 5, 3) := by decide +kernel
theorem zd298_29 : decode zxm298.2.1 29 = .ok (.iconst (-1), 1) := by decide +kernel
theorem zd298_30 : decode zxm298.2.1 30 = .ok (.ireturn, 1) := by decide +kernel
theorem zd298_31 : decode zxm298.2.1 31 = .ok (.aload_n 0, 1) := by decide +kernel
theorem zd298_32 : decode zxm298.2.1 32 = .ok (.iconst 0, 1) := by decide +kernel
theorem zd298_33 : decode zxm298.2.1 33 = .ok (.putfield 168, 3) := by decide +kernel
theorem zd298_36 : decode zxm298.2.1 36 = .ok (.aload_n 0, 1) := by decide +kernel
theorem zd298_37 : decode zxm298.2.1 37 = .ok (.invokevirtual 434, 3) := by decide +kernel
theorem zd298_40 : decode zxm298.2.1 40 = .ok (.aload_n 0, 1) := by decide +kernel
theorem zd298_41 : decode zxm298.2.1 41 = .ok (.invokevirtual 414, 3) := by decide +kernel
theorem zd298_44 : decode zxm298.2.1 44 = .ok (.iconst 0, 1) := by decide +kernel
theorem zd298_45 : decode zxm298.2.1 45 = .ok (.istore_n 1, 1) := by decide +kernel
theorem zd298_46 : decode zxm298.2.1 46 = .ok (.iconst 0, 1) := by decide +kernel
theorem zd298_47 : decode zxm298.2.1 47 = .ok (.istore_n 2, 1) := by decide +kernel
theorem zd298_48 : decode zxm298.2.1 48 = .ok (.iconst 0, 1) := by decide +kernel
theorem zd298_49 : decode zxm298.2.1 49 = .ok (.istore_n 3, 1) := by decide +kernel
theorem zd298_50 : decode zxm298.2.1 50 = .ok (.iload_n 3, 1) := by decide +kernel
theorem zd298_51 : decode zxm298.2.1 51 = .ok (.bipush 24, 2) := by decide +kernel
theorem zd298_53 : decode zxm298.2.1 53 = .ok (.if_icmp .ge 75, 3) := by decide +kernel
theorem zd298_56 : decode zxm298.2.1 56 = .ok (.aload_n 0, 1) := by decide +kernel
theorem zd298_57 : decode zxm298.2.1 57 = .ok (.iload_n 3, 1) := by decide +kernel
theorem zd298_58 : decode zxm298.2.1 58 = .ok (.invokevirtual 157, 3) := by decide +kernel
theorem zd298_61 : decode zxm298.2.1 61 = .ok (.ifCond .ne 6, 3) := by decide +kernel
theorem zd298_64 : decode zxm298.2.1 64 = .ok (.goto 58, 3) := by decide +kernel
theorem zd298_67 : decode zxm298.2.1 67 = .ok (.aload_n 0, 1) := by decide +kernel
theorem zd298_68 : decode zxm298.2.1 68 = .ok (.getfield 19, 3) := by decide +kernel
theorem zd298_71 : decode zxm298.2.1 71 = .ok (.iload_n 2, 1) := by decide +kernel
theorem zd298_72 : decode zxm298.2.1 72 = .ok (.baload, 1) := by decide +kernel
theorem zd298_73 : decode zxm298.2.1 73 = .ok (.sipush 255, 3) := by decide +kernel
theorem zd298_76 : decode zxm298.2.1 76 = .ok (.iand, 1) := by decide +kernel
theorem zd298_77 : decode zxm298.2.1 77 = .ok (.aload_n 0, 1) := by decide +kernel
theorem zd298_78 : decode zxm298.2.1 78 = .ok (.getfield 7, 3) := by decide +kernel
theorem zd298_81 : decode zxm298.2.1 81 = .ok (.iconst 0, 1) := by decide +kernel
theorem zd298_82 : decode zxm298.2.1 82 = .ok (.iload_n 3, 1) := by decide +kernel
theorem zd298_83 : decode zxm298.2.1 83 = .ok (.iadd, 1) := by decide +kernel
theorem zd298_84 : decode zxm298.2.1 84 = .ok (.iaload, 1) := by decide +kernel
theorem zd298_85 : decode zxm298.2.1 85 = .ok (.if_icmp .ne 27, 3) := by decide +kernel
theorem zd298_88 : decode zxm298.2.1 88 = .ok (.aload_n 0, 1) := by decide +kernel
theorem zd298_89 : decode zxm298.2.1 89 = .ok (.getfield 19, 3) := by decide +kernel
theorem zd298_92 : decode zxm298.2.1 92 = .ok (.iload_n 2, 1) := by decide +kernel
theorem zd298_93 : decode zxm298.2.1 93 = .ok (.iconst 1, 1) := by decide +kernel
theorem zd298_94 : decode zxm298.2.1 94 = .ok (.iadd, 1) := by decide +kernel
theorem zd298_95 : decode zxm298.2.1 95 = .ok (.baload, 1) := by decide +kernel
theorem zd298_96 : decode zxm298.2.1 96 = .ok (.sipush 255, 3) := by decide +kernel
theorem zd298_99 : decode zxm298.2.1 99 = .ok (.iand, 1) := by decide +kernel
theorem zd298_100 : decode zxm298.2.1 100 = .ok (.aload_n 0, 1) := by decide +kernel
theorem zd298_101 : decode zxm298.2.1 101 = .ok (.getfield 7, 3) := by decide +kernel
theorem zd298_104 : decode zxm298.2.1 104 = .ok (.bipush 24, 2) := by decide +kernel
theorem zd298_106 : decode zxm298.2.1 106 = .ok (.iload_n 3, 1) := by decide +kernel
theorem zd298_107 : decode zxm298.2.1 107 = .ok (.iadd, 1) := by decide +kernel
theorem zd298_108 : decode zxm298.2.1 108 = .ok (.iaload, 1) := by decide +kernel
theorem zd298_109 : decode zxm298.2.1 109 = .ok (.if_icmp .eq 9, 3) := by decide +kernel
theorem zd298_112 : decode zxm298.2.1 112 = .ok (.iload_n 1, 1) := by decide +kernel
theorem zd298_113 : decode zxm298.2.1 113 = .ok (.iconst 1, 1) := by decide +kernel
theorem zd298_114 : decode zxm298.2.1 114 = .ok (.iload_n 3, 1) := by decide +kernel
theorem zd298_115 : decode zxm298.2.1 115 = .ok (.ishl, 1) := by decide +kernel
theorem zd298_116 : decode zxm298.2.1 116 = .ok (.ior, 1) := by decide +kernel
theorem zd298_117 : decode zxm298.2.1 117 = .ok (.istore_n 1, 1) := by decide +kernel
theorem zd298_118 : decode zxm298.2.1 118 = .ok (.iload_n 2, 1) := by decide +kernel
theorem zd298_119 : decode zxm298.2.1 119 = .ok (.iconst 2, 1) := by decide +kernel
theorem zd298_120 : decode zxm298.2.1 120 = .ok (.iadd, 1) := by decide +kernel
theorem zd298_121 : decode zxm298.2.1 121 = .ok (.istore_n 2, 1) := by decide +kernel
theorem zd298_122 : decode zxm298.2.1 122 = .ok (.iinc 3 1, 3) := by decide +kernel
theorem zd298_125 : decode zxm298.2.1 125 = .ok (.goto (-75), 3) := by decide +kernel
theorem zd298_128 : decode zxm298.2.1 128 = .ok (.aload_n 0, 1) := by decide +kernel
theorem zd298_129 : decode zxm298.2.1 129 = .ok (.invokevirtual 437, 3) := by decide +kernel
theorem zd298_132 : decode zxm298.2.1 132 = .ok (.iload_n 1, 1) := by decide +kernel
theorem zd298_133 : decode zxm298.2.1 133 = .ok (.ireturn, 1) := by decide +kernel
theorem zt_M_found {f0 : Int} {g0 : (Int → Int)} {g1 : (Int → Int)} {g2 : (Int → Int)} {o : Int × Int × (Int → Int) × (Int → Int)} (h : zf_M_found f0 g0 g1 g2 = some o) : zv_Fn z_TB z_cl z_KX zy_M_found zxm298 (3, 180) [.inr 0] [.inl f0] [g0, g1, g2] (some o.1) [.inl o.2.1] [o.2.2.1, o.2.2.2, g2] := zv_meth (K := (z_KF13, z_KC13, z_KL13, z_KT13, [], [], [], none)) (FT := z_FT) (MT := z_MT) (n := 1) zxp298 (z_ks13 _ (fun _ h => List.mem_cons_of_mem _ h) _ _ _ _ (fun j r h _ => by cases h)) (fun _ _ => zs_KX_p) zyw_M_found (fun va F G h => by obtain ⟨rfl, _⟩ := h; rfl) (fun va F G h => by obtain ⟨rfl, _⟩ := h; rfl) rfl fun good va F G hB hret hvret hP => by
  obtain ⟨rfl, rfl, rfl⟩ := hP
  have l0 : ∀ (n : Nat) (x1 : Int) (x2 : Int) (x3 : Int) (f0 : Int) (g0 : (Int → Int)) (g1 : (Int → Int)) (q : Int), zf_M_found_l0 g0 g2 n x1 x2 x3 = some q → (good 128 [.inr 0, .inl q, .inr 1000, .inr 1000] [] [.inl f0] [g0, g1, g2]) → good 50 [.inr 0, .inl x1, .inl x2, .inl x3] [] [.inl f0] [g0, g1, g2] := by
    intro n
    induction n with
    | zero => intro x1 x2 x3 f0 g0 g1 q h; exact absurd (show none = some q from h) (fun h => by cases h)
    | succ n ih =>
      intro x1 x2 x3 f0 g0 g1 q h hK
      replace h : zf_M_found_l0_b g0 g2 (zf_M_found_l0 g0 g2 n) x1 x2 x3 = some q := h
      unfold zf_M_found_l0_b at h
      refine zv_ild hB zd298_50 rfl rfl ?_
      refine zv_con hB zd298_51 rfl ?_
      refine zv_cge hB zd298_53 rfl (fun hc6 => ?_) (fun hc6 => ?_)
      · rw [if_neg (Int.not_lt.mpr hc6)] at h
        have hq := Option.some.inj h
        subst hq
        refine zv_wk hB (L' := [.inr 0, .inl x1, .inr 1000, .inr 1000]) (F' := [.inl f0]) ⟨fun _ => rfl, fun _ => rfl, fun (h : zv_is (.inr 1000)) => (Nat.lt_irrefl 1000 h).elim, fun (h : zv_is (.inr 1000)) => (Nat.lt_irrefl 1000 h).elim, trivial⟩ ⟨fun _ => rfl, trivial⟩ ?_
        exact hK
      · rw [if_pos hc6] at h
        refine zv_ald hB zd298_56 rfl rfl rfl ?_
        refine zv_ild hB zd298_57 rfl rfl ?_
        obtain ⟨r7, hr7, h⟩ := zi_bind h
        refine zv_cv hB (zv_emq (va2 := [.inr 0, .inl x3]) (F := [.inl f0]) (F' := [.inl f0]) (G := [g0, g1, g2]) (G' := [g0, g1, g2]) (ρ := [0, 1]) (φ := []) (ψ := [0]) [none] [some 0, none, none] zyw_M_isTold zyw_M_found zye_M_found (by decide +kernel) (zt_M_isTold hr7) trivial ⟨rfl, trivial⟩ rfl rfl rfl rfl rfl rfl rfl) zd298_58 zxt203 rfl (by decide) (by decide) rfl ?_
        refine zv_zne hB zd298_61 rfl (fun hc8 => ?_) (fun hc8 => ?_)
        · rw [if_neg hc8] at h
          refine zv_ald hB zd298_67 rfl rfl rfl ?_
          refine zv_getr hB zd298_68 rfl ?_
          refine zv_ild hB zd298_71 rfl rfl ?_
          obtain ⟨c9, h⟩ := zi_if h
          refine zv_bald hB zd298_72 rfl rfl (zi_ix_ok c9).1 (zi_ix_ok c9).2 (fun _ _ => ?_)
          refine zv_con hB zd298_73 rfl ?_
          refine zv_andw hB zd298_76 ?_
          refine zv_ald hB zd298_77 rfl rfl rfl ?_
          refine zv_getr hB zd298_78 rfl ?_
          refine zv_con hB zd298_81 rfl ?_
          refine zv_ild hB zd298_82 rfl rfl ?_
          refine zv_addw hB zd298_83 ?_
          obtain ⟨c10, h⟩ := zi_if h
          refine zv_iald hB zd298_84 rfl rfl (zi_ix_ok c10).1 (zi_ix_ok c10).2 (fun _ _ => ?_)
          refine zv_cne hB zd298_85 rfl (fun hc11 => ?_) (fun hc11 => ?_)
          · rw [if_neg hc11] at h
            refine zv_ild hB zd298_112 rfl rfl ?_
            refine zv_con hB zd298_113 rfl ?_
            refine zv_ild hB zd298_114 rfl rfl ?_
            refine zv_shlw hB zd298_115 ?_
            refine zv_orw hB zd298_116 ?_
            refine zv_ist hB zd298_117 rfl rfl rfl ?_
            refine zv_ild hB zd298_118 rfl rfl ?_
            refine zv_con hB zd298_119 rfl ?_
            refine zv_addw hB zd298_120 ?_
            refine zv_ist hB zd298_121 rfl rfl rfl ?_
            refine zv_iincw hB zd298_122 rfl rfl ?_
            refine zv_goto hB zd298_125 rfl ?_
            exact ih _ _ _ _ _ _ q h hK
          · rw [if_pos hc11] at h
            refine zv_ald hB zd298_88 rfl rfl rfl ?_
            refine zv_getr hB zd298_89 rfl ?_
            refine zv_ild hB zd298_92 rfl rfl ?_
            refine zv_con hB zd298_93 rfl ?_
            refine zv_addw hB zd298_94 ?_
            obtain ⟨c12, h⟩ := zi_if h
            refine zv_bald hB zd298_95 rfl rfl (zi_ix_ok c12).1 (zi_ix_ok c12).2 (fun _ _ => ?_)
            refine zv_con hB zd298_96 rfl ?_
            refine zv_andw hB zd298_99 ?_
            refine zv_ald hB zd298_100 rfl rfl rfl ?_
            refine zv_getr hB zd298_101 rfl ?_
            refine zv_con hB zd298_104 rfl ?_
            refine zv_ild hB zd298_106 rfl rfl ?_
            refine zv_addw hB zd298_107 ?_
            obtain ⟨c13, h⟩ := zi_if h
            refine zv_iald hB zd298_108 rfl rfl (zi_ix_ok c13).1 (zi_ix_ok c13).2 (fun _ _ => ?_)
            refine zv_ceq hB zd298_109 rfl (fun hc14 => ?_) (fun hc14 => ?_)
            · rw [if_pos hc14] at h
              refine zv_ild hB zd298_118 rfl rfl ?_
              refine zv_con hB zd298_119 rfl ?_
              refine zv_addw hB zd298_120 ?_
              refine zv_ist hB zd298_121 rfl rfl rfl ?_
              refine zv_iincw hB zd298_122 rfl rfl ?_
              refine zv_goto hB zd298_125 rfl ?_
              exact ih _ _ _ _ _ _ q h hK
            · rw [if_neg hc14] at h
              refine zv_ild hB zd298_112 rfl rfl ?_
              refine zv_con hB zd298_113 rfl ?_
              refine zv_ild hB zd298_114 rfl rfl ?_
              refine zv_shlw hB zd298_115 ?_
              refine zv_orw hB zd298_116 ?_
              refine zv_ist hB zd298_117 rfl rfl rfl ?_
              refine zv_ild hB zd298_118 rfl rfl ?_
              refine zv_con hB zd298_119 rfl ?_
              refine zv_addw hB zd298_120 ?_
              refine zv_ist hB zd298_121 rfl rfl rfl ?_
              refine zv_iincw hB zd298_122 rfl rfl ?_
              refine zv_goto hB zd298_125 rfl ?_
              exact ih _ _ _ _ _ _ q h hK
        · rw [if_pos hc8] at h
          refine zv_goto hB zd298_64 rfl ?_
          refine zv_iincw hB zd298_122 rfl rfl ?_
          refine zv_goto hB zd298_125 rfl ?_
          exact ih _ _ _ _ _ _ q h hK
  unfold zf_M_found at h
  refine zv_ald hB zd298_0 rfl rfl rfl ?_
  refine zv_getr hB zd298_1 rfl ?_
  refine zv_con hB zd298_4 rfl ?_
  refine zv_iald hB zd298_6 rfl rfl (by decide) (by decide) (fun _ _ => ?_)
  refine zv_zeq hB zd298_7 rfl (fun hc1 => ?_) (fun hc1 => ?_)
  · rw [if_pos hc1] at h
    refine zv_con hB zd298_29 rfl ?_
    have hw := Option.some.inj h
    subst hw
    exact hret _ _ _ _ _ zd298_30 (by trivial) ⟨rfl, rfl, rfl⟩
  · rw [if_neg hc1] at h
    refine zv_con hB zd298_10 rfl ?_
    refine zv_ald hB zd298_11 rfl rfl rfl ?_
    refine zv_getr hB zd298_12 rfl ?_
    refine zv_con hB zd298_15 rfl ?_
    refine zv_iald hB zd298_17 rfl rfl (by decide) (by decide) (fun _ _ => ?_)
    obtain ⟨r2, hr2, h⟩ := zi_bind h
    refine zv_cs hB (zv_emq (va2 := [.inl (g0 126)]) (F := [.inl f0]) (F' := [.inl f0]) (G := [g0, g1, g2]) (G' := [g0, g1, g2]) (ρ := []) (φ := []) (ψ := []) [none] [none, none, none] zyw_M_bits zyw_M_found zye_M_found (by decide +kernel) (zt_M_bits hr2) trivial trivial rfl rfl rfl rfl rfl rfl rfl) zd298_18 zxt257 rfl (by decide) (by decide) rfl ?_
    refine zv_mulw hB zd298_21 ?_
    refine zv_ald hB zd298_22 rfl rfl rfl ?_
    refine zv_getf hB zd298_23 rfl rfl (fun _ _ => ?_)
    refine zv_cle hB zd298_26 rfl (fun hc3 => ?_) (fun hc3 => ?_)
    · rw [if_neg (Int.not_lt.mpr hc3)] at h
      refine zv_ald hB zd298_31 rfl rfl rfl ?_
      refine zv_con hB zd298_32 rfl ?_
      refine zv_putf hB zd298_33 rfl rfl (fun h => by cases h) rfl ?_
      refine zv_ald hB zd298_36 rfl rfl rfl ?_
      obtain ⟨r4, hr4, h⟩ := zi_bind h
      refine zv_cv hB (zv_emq (va2 := [.inr 0]) (F := [.inl 0]) (F' := [.inl 0]) (G := [g0, g1, g2]) (G' := [g0, r4, g2]) (ρ := [0, 1, 2]) (φ := []) (ψ := [0, 1]) [none] [some 0, some 1, none] zyw_M_begins zyw_M_found zye_M_found (by decide +kernel) (zt_M_begins hr4) trivial ⟨rfl, rfl, trivial⟩ rfl rfl rfl rfl rfl rfl rfl) zd298_37 zxt299 rfl (by decide) (by decide) rfl ?_
      refine zv_ald hB zd298_40 rfl rfl rfl ?_
      obtain ⟨r5, hr5, h⟩ := zi_bind h
      refine zv_cv hB (zv_emq (va2 := [.inr 0]) (F := [.inl 0]) (F' := [.inl 0]) (G := [g0, r4, g2]) (G' := [r5, r4, g2]) (ρ := [0, 1]) (φ := []) (ψ := [0]) [none] [some 0, none, none] zyw_M_walks zyw_M_found zye_M_found (by decide +kernel) (zt_M_walks hr5) trivial ⟨rfl, trivial⟩ rfl rfl rfl rfl rfl rfl rfl) zd298_41 zxt295 rfl (by decide) (by decide) rfl ?_
      refine zv_con hB zd298_44 rfl ?_
      refine zv_ist hB zd298_45 rfl rfl rfl ?_
      refine zv_con hB zd298_46 rfl ?_
      refine zv_ist hB zd298_47 rfl rfl rfl ?_
      refine zv_con hB zd298_48 rfl ?_
      refine zv_ist hB zd298_49 rfl rfl rfl ?_
      obtain ⟨q15, hq15, h⟩ := zi_bind h
      refine l0 _ _ _ _ _ _ _ q15 hq15 ?_
      show good 128 [.inr 0, .inl q15, .inr 1000, .inr 1000] [] [.inl 0] [r5, r4, g2]
      refine zv_ald hB zd298_128 rfl rfl rfl ?_
      obtain ⟨r16, hr16, h⟩ := zi_bind h
      refine zv_cv hB (zv_emq (va2 := [.inr 0]) (F := [.inl 0]) (F' := [.inl 0]) (G := [r5, r4, g2]) (G' := [r16, r4, g2]) (ρ := [0, 2, 1]) (φ := []) (ψ := [1, 0]) [none] [some 1, some 0, none] zyw_M_again zyw_M_found zye_M_found (by decide +kernel) (zt_M_again hr16) trivial ⟨rfl, rfl, trivial⟩ rfl rfl rfl rfl rfl rfl rfl) zd298_129 zxt301 rfl (by decide) (by decide) rfl ?_
      refine zv_ild hB zd298_132 rfl rfl ?_
      have hw := Option.some.inj h
      subst hw
      exact hret _ _ _ _ _ zd298_133 (by trivial) ⟨rfl, rfl, rfl⟩
    · rw [if_pos hc3] at h
      refine zv_con hB zd298_29 rfl ?_
      have hw := Option.some.inj h
      subst hw
      exact hret _ _ _ _ _ zd298_30 (by trivial) ⟨rfl, rfl, rfl⟩
/-! M_goesTo (II)I -/
-- names: 
-- fields: ; arrays: ; out: [('ret', None)]
abbrev zy_M_goesTo : zNL := (0, [], [], [], [])
theorem zyw_M_goesTo : zv_wf zy_M_goesTo = true := by decide +kernel
theorem zye_M_goesTo : zv_ek2 zy_M_goesTo = true := by decide +kernel
def zf_M_goesTo (x0 : Int) (x1 : Int) : Option (Int) := if x1 = 1 then (if (zi_div x0 24) < 0 then (some (-1)) else (if (zi_div x0 24) < 12 then (some (zi_w ((zi_w (24 * (zi_div x0 24))) + (zi_rem (zi_w ((zi_rem x0 24) + 1)) 24)))) else (some (-1)))) else (if x1 = 2 then (if (zi_div x0 24) < 0 then (some (-1)) else (if (zi_div x0 24) < 12 then (some (zi_w ((zi_w (24 * (zi_div x0 24))) + (zi_rem (zi_w ((zi_w ((zi_rem x0 24) + 24)) - 1)) 24)))) else (some (-1)))) else (if x1 = 3 then (if (zi_w ((zi_div x0 24) + 1)) < 0 then (some (-1)) else (if (zi_w ((zi_div x0 24) + 1)) < 12 then (some (zi_w ((zi_w (24 * (zi_w ((zi_div x0 24) + 1)))) + (zi_rem x0 24)))) else (some (-1)))) else (if x1 = 4 then (if (zi_w ((zi_div x0 24) - 1)) < 0 then (some (-1)) else (if (zi_w ((zi_div x0 24) - 1)) < 12 then (some (zi_w ((zi_w (24 * (zi_w ((zi_div x0 24) - 1)))) + (zi_rem x0 24)))) else (some (-1)))) else (if (zi_div x0 24) < 0 then (some (-1)) else (if (zi_div x0 24) < 12 then (some (zi_w ((zi_w (24 * (zi_div x0 24))) + (zi_rem x0 24)))) else (some (-1)))))))
theorem zd304_0 : decode zxm304.2.1 0 = .ok (.iload_n 0, 1) := by decide +kernel
theorem zd304_1 : decode zxm304.2.1 1 = .ok (.bipush 24, 2) := by decide +kernel
theorem zd304_3 : decode zxm304.2.1 3 = .ok (.irem, 1) := by decide +kernel
theorem zd304_4 : decode zxm304.2.1 4 = .ok (.istore_n 2, 1) := by decide +kernel
theorem zd304_5 : decode zxm304.2.1 5 = .ok (.iload_n 0, 1) := by decide +kernel
theorem zd304_6 : decode zxm304.2.1 6 = .ok (.bipush 24, 2) := by decide +kernel
theorem zd304_8 : decode zxm304.2.1 8 = .ok (.idiv, 1) := by decide +kernel
theorem zd304_9 : decode zxm304.2.1 9 = .ok (.istore_n 3, 1) := by decide +kernel
theorem zd304_10 : decode zxm304.2.1 10 = .ok (.iload_n 1, 1) := by decide +kernel
theorem zd304_11 : decode zxm304.2.1 11 = .ok (.iconst 1, 1) := by decide +kernel
theorem zd304_12 : decode zxm304.2.1 12 = .ok (.if_icmp .ne 10, 3) := by decide +kernel
theorem zd304_15 : decode zxm304.2.1 15 = .ok (.iload_n 2, 1) := by decide +kernel
theorem zd304_16 : decode zxm304.2.1 16 = .ok (.iconst 1, 1) := by decide +kernel
theorem zd304_17 : decode zxm304.2.1 17 = .ok (.iadd, 1) := by decide +kernel
theorem zd304_18 : decode zxm304.2.1 18 = .ok (.bipush 24, 2) := by decide +kernel
theorem zd304_20 : decode zxm304.2.1 20 = .ok (.irem, 1) := by decide +kernel
theorem zd304_21 : decode zxm304.2.1 21 = .ok (.istore_n 2, 1) := by decide +kernel
theorem zd304_22 : decode zxm304.2.1 22 = .ok (.iload_n 1, 1) := by decide +kernel
theorem zd304_23 : decode zxm304.2.1 23 = .ok (.iconst 2, 1) := by decide +kernel
theorem zd304_24 : decode zxm304.2.1 24 = .ok (.if_icmp .ne 13, 3) := by decide +kernel
theorem zd304_27 : decode zxm304.2.1 27 = .ok (.iload_n 2, 1) := by decide +kernel
theorem zd304_28 : decode zxm304.2.1 28 = .ok (.bipush 24, 2) := by decide +kernel
theorem zd304_30 : decode zxm304.2.1 30 = .ok (.iadd, 1) := by decide +kernel
theorem zd304_31 : decode zxm304.2.1 31 = .ok (.iconst 1, 1) := by decide +kernel
theorem zd304_32 : decode zxm304.2.1 32 = .ok (.isub, 1) := by decide +kernel
theorem zd304_33 : decode zxm304.2.1 33 = .ok (.bipush 24, 2) := by decide +kernel
theorem zd304_35 : decode zxm304.2.1 35 = .ok (.irem, 1) := by decide +kernel
theorem zd304_36 : decode zxm304.2.1 36 = .ok (.istore_n 2, 1) := by decide +kernel
theorem zd304_37 : decode zxm304.2.1 37 = .ok (.iload_n 1, 1) := by decide +kernel
theorem zd304_38 : decode zxm304.2.1 38 = .ok (.iconst 3, 1) := by decide +kernel
theorem zd304_39 : decode zxm304.2.1 39 = .ok (.if_icmp .ne 7, 3) := by decide +kernel
theorem zd304_42 : decode zxm304.2.1 42 = .ok (.iload_n 3, 1) := by decide +kernel
theorem zd304_43 : decode zxm304.2.1 43 = .ok (.iconst 1, 1) := by decide +kernel
theorem zd304_44 : decode zxm304.2.1 44 = .ok (.iadd, 1) := by decide +kernel
theorem zd304_45 : decode zxm304.2.1 45 = .ok (.istore_n 3, 1) := by decide +kernel
theorem zd304_46 : decode zxm304.2.1 46 = .ok (.iload_n 1, 1) := by decide +kernel
theorem zd304_47 : decode zxm304.2.1 47 = .ok (.iconst 4, 1) := by decide +kernel
theorem zd304_48 : decode zxm304.2.1 48 = .ok (.if_icmp .ne 7, 3) := by decide +kernel
theorem zd304_51 : decode zxm304.2.1 51 = .ok (.iload_n 3, 1) := by decide +kernel
theorem zd304_52 : decode zxm304.2.1 52 = .ok (.iconst 1, 1) := by decide +kernel
theorem zd304_53 : decode zxm304.2.1 53 = .ok (.isub, 1) := by decide +kernel
theorem zd304_54 : decode zxm304.2.1 54 = .ok (.istore_n 3, 1) := by decide +kernel
theorem zd304_55 : decode zxm304.2.1 55 = .ok (.iload_n 3, 1) := by decide +kernel
theorem zd304_56 : decode zxm304.2.1 56 = .ok (.ifCond .lt 9, 3) := by decide +kernel
theorem zd304_59 : decode zxm304.2.1 59 = .ok (.iload_n 3, 1) := by decide +kernel
theorem zd304_60 : decode zxm304.2.1 60 = .ok (.bipush 12, 2) := by decide +kernel
theorem zd304_62 : decode zxm304.2.1 62 = .ok (.if_icmp .lt 7, 3) := by decide +kernel
theorem zd304_65 : decode zxm304.2.1 65 = .ok (.iconst (-1), 1) := by decide +kernel
theorem zd304_66 : decode zxm304.2.1 66 = .ok (.goto 9, 3) := by decide +kernel
theorem zd304_69 : decode zxm304.2.1 69 = .ok (.bipush 24, 2) := by decide +kernel
theorem zd304_71 : decode zxm304.2.1 71 = .ok (.iload_n 3, 1) := by decide +kernel
theorem zd304_72 : decode zxm304.2.1 72 = .ok (.imul, 1) := by decide +kernel
theorem zd304_73 : decode zxm304.2.1 73 = .ok (.iload_n 2, 1) := by decide +kernel
theorem zd304_74 : decode zxm304.2.1 74 = .ok (.iadd, 1) := by decide +kernel
theorem zd304_75 : decode zxm304.2.1 75 = .ok (.ireturn, 1) := by decide +kernel
theorem zt_M_goesTo {x0 : Int} {x1 : Int} {o : Int} (h : zf_M_goesTo x0 x1 = some o) : zv_Fn z_TB z_cl z_KX zy_M_goesTo zxm304 (0, 0) [.inl x0, .inl x1] [] [] (some o) [] [] := zv_meth (K := (z_KF13, z_KC13, z_KL13, z_KT13, [], [], [], none)) (FT := z_FT) (MT := z_MT) (n := 2) zxp304 (z_ks13 _ (fun _ h => List.mem_cons_of_mem _ h) _ _ _ _ (fun j r h _ => by cases h)) (fun _ _ => zs_KX_p) zyw_M_goesTo (fun va F G h => by obtain ⟨rfl, _⟩ := h; rfl) (fun va F G h => by obtain ⟨rfl, _⟩ := h; rfl) rfl fun good va F G hB hret hvret hP => by
  obtain ⟨rfl, rfl, rfl⟩ := hP
  unfold zf_M_goesTo at h
  refine zv_ild hB zd304_0 rfl rfl ?_
  refine zv_con hB zd304_1 rfl ?_
  refine zv_remw hB zd304_3 (by decide) ?_
  refine zv_ist hB zd304_4 rfl rfl rfl ?_
  refine zv_ild hB zd304_5 rfl rfl ?_
  refine zv_con hB zd304_6 rfl ?_
  refine zv_divw hB zd304_8 (by decide) ?_
  refine zv_ist hB zd304_9 rfl rfl rfl ?_
  refine zv_ild hB zd304_10 rfl rfl ?_
  refine zv_con hB zd304_11 rfl ?_
  refine zv_cne hB zd304_12 rfl (fun hc1 => ?_) (fun hc1 => ?_)
  · rw [if_neg hc1] at h
    refine zv_ild hB zd304_22 rfl rfl ?_
    refine zv_con hB zd304_23 rfl ?_
    refine zv_cne hB zd304_24 rfl (fun hc2 => ?_) (fun hc2 => ?_)
    · rw [if_neg hc2] at h
      refine zv_ild hB zd304_37 rfl rfl ?_
      refine zv_con hB zd304_38 rfl ?_
      refine zv_cne hB zd304_39 rfl (fun hc3 => ?_) (fun hc3 => ?_)
      · rw [if_neg hc3] at h
        refine zv_ild hB zd304_46 rfl rfl ?_
        refine zv_con hB zd304_47 rfl ?_
        refine zv_cne hB zd304_48 rfl (fun hc4 => ?_) (fun hc4 => ?_)
        · rw [if_neg hc4] at h
          refine zv_ild hB zd304_55 rfl rfl ?_
          refine zv_zlt hB zd304_56 rfl (fun hc5 => ?_) (fun hc5 => ?_)
          · rw [if_pos hc5] at h
            refine zv_con hB zd304_65 rfl ?_
            refine zv_goto hB zd304_66 rfl ?_
            have hw := Option.some.inj h
            subst hw
            exact hret _ _ _ _ _ zd304_75 (by trivial) ⟨rfl, rfl, rfl⟩
          · rw [if_neg (Int.not_lt.mpr hc5)] at h
            refine zv_ild hB zd304_59 rfl rfl ?_
            refine zv_con hB zd304_60 rfl ?_
            refine zv_clt hB zd304_62 rfl (fun hc6 => ?_) (fun hc6 => ?_)
            · rw [if_pos hc6] at h
              refine zv_con hB zd304_69 rfl ?_
              refine zv_ild hB zd304_71 rfl rfl ?_
              refine zv_mulw hB zd304_72 ?_
              refine zv_ild hB zd304_73 rfl rfl ?_
              refine zv_addw hB zd304_74 ?_
              have hw := Option.some.inj h
              subst hw
              exact hret _ _ _ _ _ zd304_75 (by trivial) ⟨rfl, rfl, rfl⟩
            · rw [if_neg (Int.not_lt.mpr hc6)] at h
              refine zv_con hB zd304_65 rfl ?_
              refine zv_goto hB zd304_66 rfl ?_
              have hw := Option.some.inj h
              subst hw
              exact hret _ _ _ _ _ zd304_75 (by trivial) ⟨rfl, rfl, rfl⟩
        · rw [if_pos hc4] at h
          refine zv_ild hB zd304_51 rfl rfl ?_
          refine zv_con hB zd304_52 rfl ?_
          refine zv_subw hB zd304_53 ?_
          refine zv_ist hB zd304_54 rfl rfl rfl ?_
          refine zv_ild hB zd304_55 rfl rfl ?_
          refine zv_zlt hB zd304_56 rfl (fun hc7 => ?_) (fun hc7 => ?_)
          · rw [if_pos hc7] at h
            refine zv_con hB zd304_65 rfl ?_
            refine zv_goto hB zd304_66 rfl ?_
            have hw := Option.some.inj h
            subst hw
            exact hret _ _ _ _ _ zd304_75 (by trivial) ⟨rfl, rfl, rfl⟩
          · rw [if_neg (Int.not_lt.mpr hc7)] at h
            refine zv_ild hB zd304_59 rfl rfl ?_
            refine zv_con hB zd304_60 rfl ?_
            refine zv_clt hB zd304_62 rfl (fun hc8 => ?_) (fun hc8 => ?_)
            · rw [if_pos hc8] at h
              refine zv_con hB zd304_69 rfl ?_
              refine zv_ild hB zd304_71 rfl rfl ?_
              refine zv_mulw hB zd304_72 ?_
              refine zv_ild hB zd304_73 rfl rfl ?_
              refine zv_addw hB zd304_74 ?_
              have hw := Option.some.inj h
              subst hw
              exact hret _ _ _ _ _ zd304_75 (by trivial) ⟨rfl, rfl, rfl⟩
            · rw [if_neg (Int.not_lt.mpr hc8)] at h
              refine zv_con hB zd304_65 rfl ?_
              refine zv_goto hB zd304_66 rfl ?_
              have hw := Option.some.inj h
              subst hw
              exact hret _ _ _ _ _ zd304_75 (by trivial) ⟨rfl, rfl, rfl⟩
      · rw [if_pos hc3] at h
        refine zv_ild hB zd304_42 rfl rfl ?_
        refine zv_con hB zd304_43 rfl ?_
        refine zv_addw hB zd304_44 ?_
        refine zv_ist hB zd304_45 rfl rfl rfl ?_
        refine zv_ild hB zd304_46 rfl rfl ?_
        refine zv_con hB zd304_47 rfl ?_
        refine zv_cne hB zd304_48 rfl (fun _ => ?_) (fun hc => absurd hc (by omega))
        refine zv_ild hB zd304_55 rfl rfl ?_
        refine zv_zlt hB zd304_56 rfl (fun hc10 => ?_) (fun hc10 => ?_)
        · rw [if_pos hc10] at h
          refine zv_con hB zd304_65 rfl ?_
          refine zv_goto hB zd304_66 rfl ?_
          have hw := Option.some.inj h
          subst hw
          exact hret _ _ _ _ _ zd304_75 (by trivial) ⟨rfl, rfl, rfl⟩
        · rw [if_neg (Int.not_lt.mpr hc10)] at h
          refine zv_ild hB zd304_59 rfl rfl ?_
          refine zv_con hB zd304_60 rfl ?_
          refine zv_clt hB zd304_62 rfl (fun hc11 => ?_) (fun hc11 => ?_)
          · rw [if_pos hc11] at h
            refine zv_con hB zd304_69 rfl ?_
            refine zv_ild hB zd304_71 rfl rfl ?_
            refine zv_mulw hB zd304_72 ?_
            refine zv_ild hB zd304_73 rfl rfl ?_
            refine zv_addw hB zd304_74 ?_
            have hw := Option.some.inj h
            subst hw
            exact hret _ _ _ _ _ zd304_75 (by trivial) ⟨rfl, rfl, rfl⟩
          · rw [if_neg (Int.not_lt.mpr hc11)] at h
            refine zv_con hB zd304_65 rfl ?_
            refine zv_goto hB zd304_66 rfl ?_
            have hw := Option.some.inj h
            subst hw
            exact hret _ _ _ _ _ zd304_75 (by trivial) ⟨rfl, rfl, rfl⟩
    · rw [if_pos hc2] at h
      refine zv_ild hB zd304_27 rfl rfl ?_
      refine zv_con hB zd304_28 rfl ?_
      refine zv_addw hB zd304_30 ?_
      refine zv_con hB zd304_31 rfl ?_
      refine zv_subw hB zd304_32 ?_
      refine zv_con hB zd304_33 rfl ?_
      refine zv_remw hB zd304_35 (by decide) ?_
      refine zv_ist hB zd304_36 rfl rfl rfl ?_
      refine zv_ild hB zd304_37 rfl rfl ?_
      refine zv_con hB zd304_38 rfl ?_
      refine zv_cne hB zd304_39 rfl (fun _ => ?_) (fun hc => absurd hc (by omega))
      refine zv_ild hB zd304_46 rfl rfl ?_
      refine zv_con hB zd304_47 rfl ?_
      refine zv_cne hB zd304_48 rfl (fun _ => ?_) (fun hc => absurd hc (by omega))
      refine zv_ild hB zd304_55 rfl rfl ?_
      refine zv_zlt hB zd304_56 rfl (fun hc14 => ?_) (fun hc14 => ?_)
      · rw [if_pos hc14] at h
        refine zv_con hB zd304_65 rfl ?_
        refine zv_goto hB zd304_66 rfl ?_
        have hw := Option.some.inj h
        subst hw
        exact hret _ _ _ _ _ zd304_75 (by trivial) ⟨rfl, rfl, rfl⟩
      · rw [if_neg (Int.not_lt.mpr hc14)] at h
        refine zv_ild hB zd304_59 rfl rfl ?_
        refine zv_con hB zd304_60 rfl ?_
        refine zv_clt hB zd304_62 rfl (fun hc15 => ?_) (fun hc15 => ?_)
        · rw [if_pos hc15] at h
          refine zv_con hB zd304_69 rfl ?_
          refine zv_ild hB zd304_71 rfl rfl ?_
          refine zv_mulw hB zd304_72 ?_
          refine zv_ild hB zd304_73 rfl rfl ?_
          refine zv_addw hB zd304_74 ?_
          have hw := Option.some.inj h
          subst hw
          exact hret _ _ _ _ _ zd304_75 (by trivial) ⟨rfl, rfl, rfl⟩
        · rw [if_neg (Int.not_lt.mpr hc15)] at h
          refine zv_con hB zd304_65 rfl ?_
          refine zv_goto hB zd304_66 rfl ?_
          have hw := Option.some.inj h
          subst hw
          exact hret _ _ _ _ _ zd304_75 (by trivial) ⟨rfl, rfl, rfl⟩
  · rw [if_pos hc1] at h
    refine zv_ild hB zd304_15 rfl rfl ?_
    refine zv_con hB zd304_16 rfl ?_
    refine zv_addw hB zd304_17 ?_
    refine zv_con hB zd304_18 rfl ?_
    refine zv_remw hB zd304_20 (by decide) ?_
    refine zv_ist hB zd304_21 rfl rfl rfl ?_
    refine zv_ild hB zd304_22 rfl rfl ?_
    refine zv_con hB zd304_23 rfl ?_
    refine zv_cne hB zd304_24 rfl (fun _ => ?_) (fun hc => absurd hc (by omega))
    refine zv_ild hB zd304_37 rfl rfl ?_
    refine zv_con hB zd304_38 rfl ?_
    refine zv_cne hB zd304_39 rfl (fun _ => ?_) (fun hc => absurd hc (by omega))
    refine zv_ild hB zd304_46 rfl rfl ?_
    refine zv_con hB zd304_47 rfl ?_
    refine zv_cne hB zd304_48 rfl (fun _ => ?_) (fun hc => absurd hc (by omega))
    refine zv_ild hB zd304_55 rfl rfl ?_
    refine zv_zlt hB zd304_56 rfl (fun hc19 => ?_) (fun hc19 => ?_)
    · rw [if_pos hc19] at h
      refine zv_con hB zd304_65 rfl ?_
      refine zv_goto hB zd304_66 rfl ?_
      have hw := Option.some.inj h
      subst hw
      exact hret _ _ _ _ _ zd304_75 (by trivial) ⟨rfl, rfl, rfl⟩
    · rw [if_neg (Int.not_lt.mpr hc19)] at h
      refine zv_ild hB zd304_59 rfl rfl ?_
      refine zv_con hB zd304_60 rfl ?_
      refine zv_clt hB zd304_62 rfl (fun hc20 => ?_) (fun hc20 => ?_)
      · rw [if_pos hc20] at h
        refine zv_con hB zd304_69 rfl ?_
        refine zv_ild hB zd304_71 rfl rfl ?_
        refine zv_mulw hB zd304_72 ?_
        refine zv_ild hB zd304_73 rfl rfl ?_
        refine zv_addw hB zd304_74 ?_
        have hw := Option.some.inj h
        subst hw
        exact hret _ _ _ _ _ zd304_75 (by trivial) ⟨rfl, rfl, rfl⟩
      · rw [if_neg (Int.not_lt.mpr hc20)] at h
        refine zv_con hB zd304_65 rfl ?_
        refine zv_goto hB zd304_66 rfl ?_
        have hw := Option.some.inj h
        subst hw
        exact hret _ _ _ _ _ zd304_75 (by trivial) ⟨rfl, rfl, rfl⟩
end
