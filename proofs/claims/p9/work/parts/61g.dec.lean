/-! Methods as functions, and that they do what these do. -/
/-! X_meeting (III)I -/
-- names: 0 StarTales('arg', 0), 1 Sea(0, 0, 3), 2 Pilot(0, 0, 15), 3 (0, 6)(1, 2, 2), 4 (0, 288)(2, 9, 12), 5 (0, 288)(2, 9, 14), 6 (0, 12)(1, 2, 0), 7 (0, 288)(2, 9, 13)
-- fields: f0 = 1.shipsTold_; arrays: g0 = 3, g1 = 4, g2 = 5, g3 = 6, g4 = 7; out: [('ret', None), ('g', 1), ('g', 2), ('g', 4)]
abbrev zy_X_meeting : zNL := (8, [(0, 0), (1, 2), (2, 9)], [(1, 2, 1, 0)], [(0, 0, 3, 1), (0, 0, 15, 2), (1, 2, 2, 3), (2, 9, 12, 4), (2, 9, 14, 5), (1, 2, 0, 6), (2, 9, 13, 7)], [(3, 0, 6, 0), (4, 0, 288, 1), (5, 0, 288, 2), (6, 0, 12, 3), (7, 0, 288, 4)])
theorem zyw_X_meeting : zv_wf zy_X_meeting = true := by decide +kernel
theorem zye_X_meeting : zv_ek2 zy_X_meeting = true := by decide +kernel
def zf_X_meeting (x1 : Int) (x2 : Int) (x3 : Int) (f0 : Int) (g0 : (Int → Int)) (g1 : (Int → Int)) (g2 : (Int → Int)) (g3 : (Int → Int)) (g4 : (Int → Int)) : Option (Int × (Int → Int) × (Int → Int) × (Int → Int)) := (zf_Sea_hasShip x1 f0).bind fun r1 => (if r1 = 0 then (some ((-1), g1, g2, g4)) else ((zf_Sea_hasShip x2 f0).bind fun r3 => (if r3 = 0 then (some ((-1), g1, g2, g4)) else ((zf_X_isWithin x3 0 1).bind fun r5 => (if r5 = 0 then (some ((-1), g1, g2, g4)) else (cond (zi_ix x1 6) (cond (zi_ix x2 6) ((zf_Pilot_meetingPlace (g0 x1) (g0 x2) g1 g2 g3 g4).bind fun r9 => (if r9.1 = (-1) then (some ((-2), r9.2.1, r9.2.2.1, r9.2.2.2)) else (if x3 = 1 then (some (r9.1, r9.2.1, r9.2.2.1, r9.2.2.2)) else ((zf_Pilot_hoursTo r9.1 r9.2.1 r9.2.2.2).bind fun r12 => (some (r12, r9.2.1, r9.2.2.1, r9.2.2.2)))))) none) none))))))
theorem zd161_0 : decode zxm161.2.1 0 = .ok (.aload_n 0, 1) := by decide +kernel
theorem zd161_1 : decode zxm161.2.1 1 = .ok (.getfield 25, 3) := by decide +kernel
theorem zd161_4 : decode zxm161.2.1 4 = .ok (.iload_n 1, 1) := by decide +kernel
theorem zd161_5 : decode zxm161.2.1 5 = .ok (.invokevirtual 323, 3) := by decide +kernel
theorem zd161_8 : decode zxm161.2.1 8 = .ok (.ifCond .eq 23, 3) := by decide +kernel
theorem zd161_11 : decode zxm161.2.1 11 = .ok (.aload_n 0, 1) := by decide +kernel
theorem zd161_12 : decode zxm161.2.1 12 = .ok (.getfield 25, 3) := by decide +kernel
theorem zd161_15 : decode zxm161.2.1 15 = .ok (.iload_n 2, 1) := by decide +kernel
theorem zd161_16 : decode zxm161.2.1 16 = .ok (.invokevirtual 323, 3) := by decide +kernel
theorem zd161_19 : decode zxm161.2.1 19 = .ok (.ifCond .eq 12, 3) := by decide +kernel
theorem zd161_22 : decode zxm161.2.1 22 = .ok (.iload_n 3, 1) := by decide +kernel
theorem zd161_23 : decode zxm161.2.1 23 = .ok (.iconst 0, 1) := by decide +kernel
theorem zd161_24 : decode zxm161.2.1 24 = .ok (.iconst 1, 1) := by decide +kernel
theorem zd161_25 : decode zxm161.2.1 25 = .ok (.invokestatic 126, 3) := by decide +kernel
theorem zd161_28 : decode zxm161.2.1 28 = .ok (.ifCond .ne 5, 3) := by decide +kernel
theorem zd161_31 : decode zxm161.2.1 31 = .ok (.iconst (-1), 1) := by decide +kernel
theorem zd161_32 : decode zxm161.2.1 32 = .ok (.ireturn, 1) := by decide +kernel
theorem zd161_33 : decode zxm161.2.1 33 = .ok (.aload_n 0, 1) := by decide +kernel
theorem zd161_34 : decode zxm161.2.1 34 = .ok (.getfield 103, 3) := by decide +kernel
theorem zd161_37 : decode zxm161.2.1 37 = .ok (.aload_n 0, 1) := by decide +kernel
theorem zd161_38 : decode zxm161.2.1 38 = .ok (.getfield 25, 3) := by decide +kernel
theorem zd161_41 : decode zxm161.2.1 41 = .ok (.aload_n 0, 1) := by decide +kernel
theorem zd161_42 : decode zxm161.2.1 42 = .ok (.getfield 25, 3) := by decide +kernel
theorem zd161_45 : decode zxm161.2.1 45 = .ok (.getfield 187, 3) := by decide +kernel
theorem zd161_48 : decode zxm161.2.1 48 = .ok (.iload_n 1, 1) := by decide +kernel
theorem zd161_49 : decode zxm161.2.1 49 = .ok (.iaload, 1) := by decide +kernel
theorem zd161_50 : decode zxm161.2.1 50 = .ok (.aload_n 0, 1) := by decide +kernel
theorem zd161_51 : decode zxm161.2.1 51 = .ok (.getfield 25, 3) := by decide +kernel
theorem zd161_54 : decode zxm161.2.1 54 = .ok (.getfield 187, 3) := by decide +kernel
theorem zd161_57 : decode zxm161.2.1 57 = .ok (.iload_n 2, 1) := by decide +kernel
theorem zd161_58 : decode zxm161.2.1 58 = .ok (.iaload, 1) := by decide +kernel
theorem zd161_59 : decode zxm161.2.1 59 = .ok (.invokevirtual 346, 3) := by decide +kernel
theorem zd161_62 : decode zxm161.2.1 62 = .ok (.istore 4, 2) := by decide +kernel
theorem zd161_64 : decode zxm161.2.1 64 = .ok (.iload 4, 2) := by decide +kernel
theorem zd161_66 : decode zxm161.2.1 66 = .ok (.iconst (-1), 1) := by decide +kernel
theorem zd161_67 : decode zxm161.2.1 67 = .ok (.if_icmp .ne 6, 3) := by decide +kernel
theorem zd161_70 : decode zxm161.2.1 70 = .ok (.bipush (-2), 2) := by decide +kernel
theorem zd161_72 : decode zxm161.2.1 72 = .ok (.ireturn, 1) := by decide +kernel
theorem zd161_73 : decode zxm161.2.1 73 = .ok (.iload_n 3, 1) := by decide +kernel
theorem zd161_74 : decode zxm161.2.1 74 = .ok (.iconst 1, 1) := by decide +kernel
theorem zd161_75 : decode zxm161.2.1 75 = .ok (.if_icmp .ne 8, 3) := by decide +kernel
theorem zd161_78 : decode zxm161.2.1 78 = .ok (.iload 4, 2) := by decide +kernel
theorem zd161_80 : decode zxm161.2.1 80 = .ok (.goto 12, 3) := by decide +kernel
theorem zd161_83 : decode zxm161.2.1 83 = .ok (.aload_n 0, 1) := by decide +kernel
theorem zd161_84 : decode zxm161.2.1 84 = .ok (.getfield 103, 3) := by decide +kernel
theorem zd161_87 : decode zxm161.2.1 87 = .ok (.iload 4, 2) := by decide +kernel
theorem zd161_89 : decode zxm161.2.1 89 = .ok (.invokevirtual 350, 3) := by decide +kernel
theorem zd161_92 : decode zxm161.2.1 92 = .ok (.ireturn, 1) := by decide +kernel
theorem zt_X_meeting {x1 : Int} {x2 : Int} {x3 : Int} {f0 : Int} {g0 : (Int → Int)} {g1 : (Int → Int)} {g2 : (Int → Int)} {g3 : (Int → Int)} {g4 : (Int → Int)} {o : Int × (Int → Int) × (Int → Int) × (Int → Int)} (h : zf_X_meeting x1 x2 x3 f0 g0 g1 g2 g3 g4 = some o) : zv_Fn z_TB z_cl z_KX zy_X_meeting zxm161 (5, 300) [.inr 0, .inl x1, .inl x2, .inl x3] [.inl f0] [g0, g1, g2, g3, g4] (some o.1) [.inl f0] [g0, o.2.1, o.2.2.1, g3, o.2.2.2] := zv_meth (K := (z_KF0, z_KC0, z_KL0, z_KT0, [], [], [], none)) (FT := z_FT) (MT := z_MT) (n := 4) zxp161 (z_ks0 _ (fun _ h => List.mem_cons_of_mem _ h) _ _ _ _ (fun j r h _ => by cases h)) (fun _ _ => zs_KX_p) zyw_X_meeting (fun va F G h => by obtain ⟨rfl, _⟩ := h; rfl) (fun va F G h => by obtain ⟨rfl, _⟩ := h; rfl) rfl fun good va F G hB hret hvret hP => by
  obtain ⟨rfl, rfl, rfl⟩ := hP
  unfold zf_X_meeting at h
  refine zv_ald hB zd161_0 rfl rfl rfl ?_
  refine zv_getr hB zd161_1 rfl ?_
  refine zv_ild hB zd161_4 rfl rfl ?_
  obtain ⟨r1, hr1, h⟩ := zi_bind h
  refine zv_cv hB (zv_emq (va2 := [.inr 1, .inl x1]) (F := [.inl f0]) (F' := [.inl f0]) (G := [g0, g1, g2, g3, g4]) (G' := [g0, g1, g2, g3, g4]) (ρ := [1]) (φ := [0]) (ψ := []) [some 0] [none, none, none, none, none] zyw_Sea_hasShip zyw_X_meeting zye_X_meeting (by decide +kernel) (zt_Sea_hasShip hr1) ⟨⟨_, rfl, fun _ => rfl⟩, trivial⟩ trivial rfl rfl rfl rfl rfl rfl rfl) zd161_5 zxt26 rfl (by decide) (by decide) rfl ?_
  refine zv_zeq hB zd161_8 rfl (fun hc2 => ?_) (fun hc2 => ?_)
  · rw [if_pos hc2] at h
    refine zv_con hB zd161_31 rfl ?_
    have hw := Option.some.inj h
    subst hw
    exact hret _ _ _ _ _ zd161_32 (by trivial) ⟨rfl, rfl, rfl⟩
  · rw [if_neg hc2] at h
    refine zv_ald hB zd161_11 rfl rfl rfl ?_
    refine zv_getr hB zd161_12 rfl ?_
    refine zv_ild hB zd161_15 rfl rfl ?_
    obtain ⟨r3, hr3, h⟩ := zi_bind h
    refine zv_cv hB (zv_emq (va2 := [.inr 1, .inl x2]) (F := [.inl f0]) (F' := [.inl f0]) (G := [g0, g1, g2, g3, g4]) (G' := [g0, g1, g2, g3, g4]) (ρ := [1]) (φ := [0]) (ψ := []) [some 0] [none, none, none, none, none] zyw_Sea_hasShip zyw_X_meeting zye_X_meeting (by decide +kernel) (zt_Sea_hasShip hr3) ⟨⟨_, rfl, fun _ => rfl⟩, trivial⟩ trivial rfl rfl rfl rfl rfl rfl rfl) zd161_16 zxt26 rfl (by decide) (by decide) rfl ?_
    refine zv_zeq hB zd161_19 rfl (fun hc4 => ?_) (fun hc4 => ?_)
    · rw [if_pos hc4] at h
      refine zv_con hB zd161_31 rfl ?_
      have hw := Option.some.inj h
      subst hw
      exact hret _ _ _ _ _ zd161_32 (by trivial) ⟨rfl, rfl, rfl⟩
    · rw [if_neg hc4] at h
      refine zv_ild hB zd161_22 rfl rfl ?_
      refine zv_con hB zd161_23 rfl ?_
      refine zv_con hB zd161_24 rfl ?_
      obtain ⟨r5, hr5, h⟩ := zi_bind h
      refine zv_cs hB (zv_emq (va2 := [.inl x3, .inl 0, .inl 1]) (F := [.inl f0]) (F' := [.inl f0]) (G := [g0, g1, g2, g3, g4]) (G' := [g0, g1, g2, g3, g4]) (ρ := []) (φ := []) (ψ := []) [none] [none, none, none, none, none] zyw_X_isWithin zyw_X_meeting zye_X_meeting (by decide +kernel) (zt_X_isWithin hr5) trivial trivial rfl rfl rfl rfl rfl rfl rfl) zd161_25 zxt15 rfl (by decide) (by decide) rfl ?_
      refine zv_zne hB zd161_28 rfl (fun hc6 => ?_) (fun hc6 => ?_)
      · rw [if_neg hc6] at h
        refine zv_ald hB zd161_33 rfl rfl rfl ?_
        refine zv_getr hB zd161_34 rfl ?_
        refine zv_ald hB zd161_37 rfl rfl rfl ?_
        refine zv_getr hB zd161_38 rfl ?_
        refine zv_ald hB zd161_41 rfl rfl rfl ?_
        refine zv_getr hB zd161_42 rfl ?_
        refine zv_getr hB zd161_45 rfl ?_
        refine zv_ild hB zd161_48 rfl rfl ?_
        obtain ⟨c7, h⟩ := zi_if h
        refine zv_iald hB zd161_49 rfl rfl (zi_ix_ok c7).1 (zi_ix_ok c7).2 (fun _ _ => ?_)
        refine zv_ald hB zd161_50 rfl rfl rfl ?_
        refine zv_getr hB zd161_51 rfl ?_
        refine zv_getr hB zd161_54 rfl ?_
        refine zv_ild hB zd161_57 rfl rfl ?_
        obtain ⟨c8, h⟩ := zi_if h
        refine zv_iald hB zd161_58 rfl rfl (zi_ix_ok c8).1 (zi_ix_ok c8).2 (fun _ _ => ?_)
        obtain ⟨r9, hr9, h⟩ := zi_bind h
        refine zv_cv hB (zv_emq (va2 := [.inr 2, .inr 1, .inl (g0 x1), .inl (g0 x2)]) (F := [.inl f0]) (F' := [.inl f0]) (G := [g0, g1, g2, g3, g4]) (G' := [g0, r9.2.1, r9.2.2.1, g3, r9.2.2.2]) (ρ := [2, 1, 4, 5, 6, 7]) (φ := []) (ψ := [1, 2, 3, 4]) [none] [none, some 0, some 1, some 2, some 3] zyw_Pilot_meetingPlace zyw_X_meeting zye_X_meeting (by decide +kernel) (zt_Pilot_meetingPlace hr9) trivial ⟨rfl, rfl, rfl, rfl, trivial⟩ rfl rfl rfl rfl rfl rfl rfl) zd161_59 zxt162 rfl (by decide) (by decide) rfl ?_
        refine zv_ist hB zd161_62 rfl rfl rfl ?_
        refine zv_ild hB zd161_64 rfl rfl ?_
        refine zv_con hB zd161_66 rfl ?_
        refine zv_cne hB zd161_67 rfl (fun hc10 => ?_) (fun hc10 => ?_)
        · rw [if_neg hc10] at h
          refine zv_ild hB zd161_73 rfl rfl ?_
          refine zv_con hB zd161_74 rfl ?_
          refine zv_cne hB zd161_75 rfl (fun hc11 => ?_) (fun hc11 => ?_)
          · rw [if_neg hc11] at h
            refine zv_ald hB zd161_83 rfl rfl rfl ?_
            refine zv_getr hB zd161_84 rfl ?_
            refine zv_ild hB zd161_87 rfl rfl ?_
            obtain ⟨r12, hr12, h⟩ := zi_bind h
            refine zv_cv hB (zv_emq (va2 := [.inr 2, .inl r9.1]) (F := [.inl f0]) (F' := [.inl f0]) (G := [g0, r9.2.1, r9.2.2.1, g3, r9.2.2.2]) (G' := [g0, r9.2.1, r9.2.2.1, g3, r9.2.2.2]) (ρ := [2, 4, 7]) (φ := []) (ψ := [1, 4]) [none] [none, some 0, none, none, some 1] zyw_Pilot_hoursTo zyw_X_meeting zye_X_meeting (by decide +kernel) (zt_Pilot_hoursTo hr12) trivial ⟨rfl, rfl, trivial⟩ rfl rfl rfl rfl rfl rfl rfl) zd161_89 zxt164 rfl (by decide) (by decide) rfl ?_
            have hw := Option.some.inj h
            subst hw
            exact hret _ _ _ _ _ zd161_92 (by trivial) ⟨rfl, rfl, rfl⟩
          · rw [if_pos hc11] at h
            refine zv_ild hB zd161_78 rfl rfl ?_
            refine zv_goto hB zd161_80 rfl ?_
            have hw := Option.some.inj h
            subst hw
            exact hret _ _ _ _ _ zd161_92 (by trivial) ⟨rfl, rfl, rfl⟩
        · rw [if_pos hc10] at h
          refine zv_con hB zd161_70 rfl ?_
          have hw := Option.some.inj h
          subst hw
          exact hret _ _ _ _ _ zd161_72 (by trivial) ⟨rfl, rfl, rfl⟩
      · rw [if_pos hc6] at h
        refine zv_con hB zd161_31 rfl ?_
        have hw := Option.some.inj h
        subst hw
        exact hret _ _ _ _ _ zd161_32 (by trivial) ⟨rfl, rfl, rfl⟩
/-! X_canAskVoyage (III)Z -/
-- names: 0 StarTales('arg', 0), 1 Sea(0, 0, 3), 2 Sky(0, 0, 0)
-- fields: f0 = 1.shipsTold_, f1 = 2.told_; arrays: ; out: [('ret', None)]
abbrev zy_X_canAskVoyage : zNL := (3, [(0, 0), (1, 2), (2, 1)], [(1, 2, 1, 0), (2, 1, 0, 1)], [(0, 0, 3, 1), (0, 0, 0, 2)], [])
theorem zyw_X_canAskVoyage : zv_wf zy_X_canAskVoyage = true := by decide +kernel
theorem zye_X_canAskVoyage : zv_ek2 zy_X_canAskVoyage = true := by decide +kernel
def zf_X_canAskVoyage (x1 : Int) (x2 : Int) (x3 : Int) (f0 : Int) (f1 : Int) : Option (Int) := (zf_Sea_hasShip x1 f0).bind fun r1 => (if r1 = 0 then (some 0) else ((zf_X_isPlace x2 x3).bind fun r3 => (if r3 = 0 then (some 0) else (if f1 = 0 then (some 0) else (some 1)))))
theorem zd166_0 : decode zxm166.2.1 0 = .ok (.aload_n 0, 1) := by decide +kernel
theorem zd166_1 : decode zxm166.2.1 1 = .ok (.getfield 25, 3) := by decide +kernel
theorem zd166_4 : decode zxm166.2.1 4 = .ok (.iload_n 1, 1) := by decide +kernel
theorem zd166_5 : decode zxm166.2.1 5 = .ok (.invokevirtual 323, 3) := by decide +kernel
theorem zd166_8 : decode zxm166.2.1 8 = .ok (.ifCond .eq 25, 3) := by decide +kernel
theorem zd166_11 : decode zxm166.2.1 11 = .ok (.iload_n 2, 1) := by decide +kernel
theorem zd166_12 : decode zxm166.2.1 12 = .ok (.iload_n 3, 1) := by decide +kernel
theorem zd166_13 : decode zxm166.2.1 13 = .ok (.invokestatic 130, 3) := by decide +kernel
theorem zd166_16 : decode zxm166.2.1 16 = .ok (.ifCond .eq 17, 3) := by decide +kernel
theorem zd166_19 : decode zxm166.2.1 19 = .ok (.aload_n 0, 1) := by decide +kernel
theorem zd166_20 : decode zxm166.2.1 20 = .ok (.getfield 10, 3) := by decide +kernel
theorem zd166_23 : decode zxm166.2.1 23 = .ok (.getfield 134, 3) := by decide +kernel
theorem zd166_26 : decode zxm166.2.1 26 = .ok (.ifCond .eq 7, 3) := by decide +kernel
theorem zd166_29 : decode zxm166.2.1 29 = .ok (.iconst 1, 1) := by decide +kernel
theorem zd166_30 : decode zxm166.2.1 30 = .ok (.goto 4, 3) := by decide +kernel
theorem zd166_33 : decode zxm166.2.1 33 = .ok (.iconst 0, 1) := by decide +kernel
theorem zd166_34 : decode zxm166.2.1 34 = .ok (.ireturn, 1) := by decide +kernel
theorem zt_X_canAskVoyage {x1 : Int} {x2 : Int} {x3 : Int} {f0 : Int} {f1 : Int} {o : Int} (h : zf_X_canAskVoyage x1 x2 x3 f0 f1 = some o) : zv_Fn z_TB z_cl z_KX zy_X_canAskVoyage zxm166 (1, 60) [.inr 0, .inl x1, .inl x2, .inl x3] [.inl f0, .inl f1] [] (some o) [.inl f0, .inl f1] [] := zv_meth (K := (z_KF0, z_KC0, z_KL0, z_KT0, [], [], [], none)) (FT := z_FT) (MT := z_MT) (n := 4) zxp166 (z_ks0 _ (fun _ h => List.mem_cons_of_mem _ h) _ _ _ _ (fun j r h _ => by cases h)) (fun _ _ => zs_KX_p) zyw_X_canAskVoyage (fun va F G h => by obtain ⟨rfl, _⟩ := h; rfl) (fun va F G h => by obtain ⟨rfl, _⟩ := h; rfl) rfl fun good va F G hB hret hvret hP => by
  obtain ⟨rfl, rfl, rfl⟩ := hP
  unfold zf_X_canAskVoyage at h
  refine zv_ald hB zd166_0 rfl rfl rfl ?_
  refine zv_getr hB zd166_1 rfl ?_
  refine zv_ild hB zd166_4 rfl rfl ?_
  obtain ⟨r1, hr1, h⟩ := zi_bind h
  refine zv_cv hB (zv_emq (va2 := [.inr 1, .inl x1]) (F := [.inl f0, .inl f1]) (F' := [.inl f0, .inl f1]) (G := []) (G' := []) (ρ := [1]) (φ := [0]) (ψ := []) [some 0, none] [] zyw_Sea_hasShip zyw_X_canAskVoyage zye_X_canAskVoyage (by decide +kernel) (zt_Sea_hasShip hr1) ⟨⟨_, rfl, fun _ => rfl⟩, trivial⟩ trivial rfl rfl rfl rfl rfl rfl rfl) zd166_5 zxt26 rfl (by decide) (by decide) rfl ?_
  refine zv_zeq hB zd166_8 rfl (fun hc2 => ?_) (fun hc2 => ?_)
  · rw [if_pos hc2] at h
    refine zv_con hB zd166_33 rfl ?_
    have hw := Option.some.inj h
    subst hw
    exact hret _ _ _ _ _ zd166_34 (by constructor <;> decide) ⟨rfl, rfl, rfl⟩
  · rw [if_neg hc2] at h
    refine zv_ild hB zd166_11 rfl rfl ?_
    refine zv_ild hB zd166_12 rfl rfl ?_
    obtain ⟨r3, hr3, h⟩ := zi_bind h
    refine zv_cs hB (zv_emq (va2 := [.inl x2, .inl x3]) (F := [.inl f0, .inl f1]) (F' := [.inl f0, .inl f1]) (G := []) (G' := []) (ρ := []) (φ := []) (ψ := []) [none, none] [] zyw_X_isPlace zyw_X_canAskVoyage zye_X_canAskVoyage (by decide +kernel) (zt_X_isPlace hr3) trivial trivial rfl rfl rfl rfl rfl rfl rfl) zd166_13 zxt16 rfl (by decide) (by decide) rfl ?_
    refine zv_zeq hB zd166_16 rfl (fun hc4 => ?_) (fun hc4 => ?_)
    · rw [if_pos hc4] at h
      refine zv_con hB zd166_33 rfl ?_
      have hw := Option.some.inj h
      subst hw
      exact hret _ _ _ _ _ zd166_34 (by constructor <;> decide) ⟨rfl, rfl, rfl⟩
    · rw [if_neg hc4] at h
      refine zv_ald hB zd166_19 rfl rfl rfl ?_
      refine zv_getr hB zd166_20 rfl ?_
      refine zv_getf hB zd166_23 rfl rfl (fun _ _ => ?_)
      refine zv_zeq hB zd166_26 rfl (fun hc5 => ?_) (fun hc5 => ?_)
      · rw [if_pos hc5] at h
        refine zv_con hB zd166_33 rfl ?_
        have hw := Option.some.inj h
        subst hw
        exact hret _ _ _ _ _ zd166_34 (by constructor <;> decide) ⟨rfl, rfl, rfl⟩
      · rw [if_neg hc5] at h
        refine zv_con hB zd166_29 rfl ?_
        refine zv_goto hB zd166_30 rfl ?_
        have hw := Option.some.inj h
        subst hw
        exact hret _ _ _ _ _ zd166_34 (by constructor <;> decide) ⟨rfl, rfl, rfl⟩
/-! Pilot_stepFirstLegs (LStarTales$View;LStarTales$Sea;)V -/
-- names: 0 Pilot('arg', 0), 1 View('arg', 1), 2 Sea('arg', 2), 3 Sky(1, 7, 0), 4 (0, 24)(0, 9, 4), 5 Law(1, 7, 1), 6 (0, 13)(5, 4, 12), 7 (0, 24)(3, 1, 1), 8 (0, 24)(3, 1, 2), 9 (0, 24)(3, 1, 3), 10 (0, 14)(5, 4, 3), 11 (0, 14)(5, 4, 5), 12 (0, 14)(5, 4, 6), 13 (0, 200)(5, 4, 0), 14 (0, 40)(5, 4, 13), 15 (0, 200)(5, 4, 1), 16 (0, 12)(2, 2, 0)
-- fields: f0 = 1.sky_, f1 = 3.told_, f2 = 1.law_, f3 = 1.x_, f4 = 1.y_, f5 = 3.hour_, f6 = 3.night_, f7 = 3.sightColumns_, f8 = 3.sightRows_, f9 = 3.clouds_, f10 = 5.tellsSeen_, f11 = 1.starsAsked_, f12 = 1.starsHold_, f13 = 5.clauses_, f14 = 5.answer_, f15 = 5.seenByPlace_; arrays: g0 = 4, g1 = 6, g2 = 7, g3 = 8, g4 = 9, g5 = 10, g6 = 11, g7 = 12, g8 = 13, g9 = 14, g10 = 15, g11 = 16; out: [('f', 3), ('f', 4), ('f', 11), ('f', 12), ('f', 14), ('g', 0), ('g', 1), ('g', 9)]
abbrev zy_Pilot_stepFirstLegs : zNL := (17, [(0, 9), (1, 7), (2, 2), (3, 1), (5, 4)], [(1, 7, 0, 0), (3, 1, 0, 1), (1, 7, 1, 2), (1, 7, 2, 3), (1, 7, 3, 4), (3, 1, 6, 5), (3, 1, 7, 6), (3, 1, 9, 7), (3, 1, 10, 8), (3, 1, 8, 9), (5, 4, 8, 10), (1, 7, 6, 11), (1, 7, 7, 12), (5, 4, 7, 13), (5, 4, 14, 14), (5, 4, 10, 15)], [(0, 9, 4, 4), (5, 4, 12, 6), (3, 1, 1, 7), (3, 1, 2, 8), (3, 1, 3, 9), (5, 4, 3, 10), (5, 4, 5, 11), (5, 4, 6, 12), (5, 4, 0, 13), (5, 4, 13, 14), (5, 4, 1, 15), (2, 2, 0, 16)], [(4, 0, 24, 0), (6, 0, 13, 1), (7, 0, 24, 2), (8, 0, 24, 3), (9, 0, 24, 4), (10, 0, 14, 5), (11, 0, 14, 6), (12, 0, 14, 7), (13, 0, 200, 8), (14, 0, 40, 9), (15, 0, 200, 10), (16, 0, 12, 11)])
theorem zyw_Pilot_stepFirstLegs : zv_wf zy_Pilot_stepFirstLegs = true := by decide +kernel
theorem zye_Pilot_stepFirstLegs : zv_ek2 zy_Pilot_stepFirstLegs = true := by decide +kernel
def zf_Pilot_stepFirstLegs_l0_b (f1 : Int) (f5 : Int) (f6 : Int) (f7 : Int) (f8 : Int) (f9 : Int) (f10 : Int) (f13 : Int) (f15 : Int) (g2 : (Int → Int)) (g3 : (Int → Int)) (g4 : (Int → Int)) (g5 : (Int → Int)) (g6 : (Int → Int)) (g7 : (Int → Int)) (g8 : (Int → Int)) (g10 : (Int → Int)) (g11 : (Int → Int)) (rec : Int → Int → Int → Int → Int → Int → (Int → Int) → (Int → Int) → (Int → Int) → Option (Int × Int × Int × Int × Int × (Int → Int) × (Int → Int) × (Int → Int))) (x3 : Int) (f3 : Int) (f4 : Int) (f11 : Int) (f12 : Int) (f14 : Int) (g0 : (Int → Int)) (g1 : (Int → Int)) (g9 : (Int → Int)) : Option (Int × Int × Int × Int × Int × (Int → Int) × (Int → Int) × (Int → Int)) := if x3 < 24 then ((zf_Sky_hasStar x3 f1).bind fun r2 => (if r2 = 0 then (rec (zi_w (x3 + 1)) f3 f4 f11 f12 f14 g0 g1 g9) else (cond (zi_ix x3 24) ((zf_Pilot_step (g0 x3) x3 f3 f4 f5 f6 f1 f7 f8 f9 f10 f11 f12 f13 f14 f15 g1 g2 g3 g4 g5 g6 g7 g8 g9 g10 g11).bind fun r5 => (rec (zi_w (x3 + 1)) r5.2.1 r5.2.2.1 r5.2.2.2.1 r5.2.2.2.2.1 r5.2.2.2.2.2.1 (zv_up g0 x3 r5.1) r5.2.2.2.2.2.2.1 r5.2.2.2.2.2.2.2)) none))) else (some (f3, f4, f11, f12, f14, g0, g1, g9))
def zf_Pilot_stepFirstLegs_l0 (f1 : Int) (f5 : Int) (f6 : Int) (f7 : Int) (f8 : Int) (f9 : Int) (f10 : Int) (f13 : Int) (f15 : Int) (g2 : (Int → Int)) (g3 : (Int → Int)) (g4 : (Int → Int)) (g5 : (Int → Int)) (g6 : (Int → Int)) (g7 : (Int → Int)) (g8 : (Int → Int)) (g10 : (Int → Int)) (g11 : (Int → Int)) : Nat → Int → Int → Int → Int → Int → Int → (Int → Int) → (Int → Int) → (Int → Int) → Option (Int × Int × Int × Int × Int × (Int → Int) × (Int → Int) × (Int → Int))
  | 0, _, _, _, _, _, _, _, _, _ => none
  | n + 1, x3, f3, f4, f11, f12, f14, g0, g1, g9 => zf_Pilot_stepFirstLegs_l0_b f1 f5 f6 f7 f8 f9 f10 f13 f15 g2 g3 g4 g5 g6 g7 g8 g10 g11 (zf_Pilot_stepFirstLegs_l0 f1 f5 f6 f7 f8 f9 f10 f13 f15 g2 g3 g4 g5 g6 g7 g8 g10 g11 n) x3 f3 f4 f11 f12 f14 g0 g1 g9
def zf_Pilot_stepFirstLegs (f1 : Int) (f3 : Int) (f4 : Int) (f5 : Int) (f6 : Int) (f7 : Int) (f8 : Int) (f9 : Int) (f10 : Int) (f11 : Int) (f12 : Int) (f13 : Int) (f14 : Int) (f15 : Int) (g0 : (Int → Int)) (g1 : (Int → Int)) (g2 : (Int → Int)) (g3 : (Int → Int)) (g4 : (Int → Int)) (g5 : (Int → Int)) (g6 : (Int → Int)) (g7 : (Int → Int)) (g8 : (Int → Int)) (g9 : (Int → Int)) (g10 : (Int → Int)) (g11 : (Int → Int)) : Option (Int × Int × Int × Int × Int × (Int → Int) × (Int → Int) × (Int → Int)) := (zf_Pilot_stepFirstLegs_l0 f1 f5 f6 f7 f8 f9 f10 f13 f15 g2 g3 g4 g5 g6 g7 g8 g10 g11 zi_fu 0 f3 f4 f11 f12 f14 g0 g1 g9).bind fun q6 => (some (q6.1, q6.2.1, q6.2.2.1, q6.2.2.2.1, q6.2.2.2.2.1, q6.2.2.2.2.2.1, q6.2.2.2.2.2.2.1, q6.2.2.2.2.2.2.2))
theorem zd168_0 : decode zxm168.2.1 0 = .ok (.iconst 0, 1) := by decide +kernel
theorem zd168_1 : decode zxm168.2.1 1 = .ok (.istore_n 3, 1) := by decide +kernel
theorem zd168_2 : decode zxm168.2.1 2 = .ok (.iload_n 3, 1) := by decide +kernel
theorem zd168_3 : decode zxm168.2.1 3 = .ok (.bipush 24, 2) := by decide +kernel
theorem zd168_5 : decode zxm168.2.1 5 = .ok (.if_icmp .ge 39, 3) := by decide +kernel
theorem zd168_8 : decode zxm168.2.1 8 = .ok (.aload_n 1, 1) := by decide +kernel
theorem zd168_9 : decode zxm168.2.1 9 = .ok (.getfield 75, 3) := by decide +kernel
theorem zd168_12 : decode zxm168.2.1 12 = .ok (.iload_n 3, 1) := by decide +kernel
theorem zd168_13 : decode zxm168.2.1 13 = .ok (.invokevirtual 120, 3) := by decide +kernel
theorem zd168_16 : decode zxm168.2.1 16 = .ok (.ifCond .eq 22, 3) := by decide +kernel
theorem zd168_19 : decode zxm168.2.1 19 = .ok (.aload_n 0, 1) := by decide +kernel
theorem zd168_20 : decode zxm168.2.1 20 = .ok (.getfield 24, 3) := by decide +kernel
theorem zd168_23 : decode zxm168.2.1 23 = .ok (.iload_n 3, 1) := by decide +kernel
theorem zd168_24 : decode zxm168.2.1 24 = .ok (.aload_n 0, 1) := by decide +kernel
theorem zd168_25 : decode zxm168.2.1 25 = .ok (.aload_n 1, 1) := by decide +kernel
theorem zd168_26 : decode zxm168.2.1 26 = .ok (.aload_n 2, 1) := by decide +kernel
theorem zd168_27 : decode zxm168.2.1 27 = .ok (.aload_n 0, 1) := by decide +kernel
theorem zd168_28 : decode zxm168.2.1 28 = .ok (.getfield 24, 3) := by decide +kernel
theorem zd168_31 : decode zxm168.2.1 31 = .ok (.iload_n 3, 1) := by decide +kernel
theorem zd168_32 : decode zxm168.2.1 32 = .ok (.iaload, 1) := by decide +kernel
theorem zd168_33 : decode zxm168.2.1 33 = .ok (.iload_n 3, 1) := by decide +kernel
theorem zd168_34 : decode zxm168.2.1 34 = .ok (.invokevirtual 150, 3) := by decide +kernel
theorem zd168_37 : decode zxm168.2.1 37 = .ok (.iastore, 1) := by decide +kernel
theorem zd168_38 : decode zxm168.2.1 38 = .ok (.iinc 3 1, 3) := by decide +kernel
theorem zd168_41 : decode zxm168.2.1 41 = .ok (.goto (-39), 3) := by decide +kernel
theorem zd168_44 : decode zxm168.2.1 44 = .ok (.return_, 1) := by decide +kernel
theorem zt_Pilot_stepFirstLegs {f1 : Int} {f3 : Int} {f4 : Int} {f5 : Int} {f6 : Int} {f7 : Int} {f8 : Int} {f9 : Int} {f10 : Int} {f11 : Int} {f12 : Int} {f13 : Int} {f14 : Int} {f15 : Int} {g0 : (Int → Int)} {g1 : (Int → Int)} {g2 : (Int → Int)} {g3 : (Int → Int)} {g4 : (Int → Int)} {g5 : (Int → Int)} {g6 : (Int → Int)} {g7 : (Int → Int)} {g8 : (Int → Int)} {g9 : (Int → Int)} {g10 : (Int → Int)} {g11 : (Int → Int)} {o : Int × Int × Int × Int × Int × (Int → Int) × (Int → Int) × (Int → Int)} (h : zf_Pilot_stepFirstLegs f1 f3 f4 f5 f6 f7 f8 f9 f10 f11 f12 f13 f14 f15 g0 g1 g2 g3 g4 g5 g6 g7 g8 g9 g10 g11 = some o) : zv_Fn z_TB z_cl z_KX zy_Pilot_stepFirstLegs zxm168 (5, 300) [.inr 0, .inr 1, .inr 2] [.inr 3, .inl f1, .inr 5, .inl f3, .inl f4, .inl f5, .inl f6, .inl f7, .inl f8, .inl f9, .inl f10, .inl f11, .inl f12, .inl f13, .inl f14, .inl f15] [g0, g1, g2, g3, g4, g5, g6, g7, g8, g9, g10, g11] none [.inr 3, .inl f1, .inr 5, .inl o.1, .inl o.2.1, .inl f5, .inl f6, .inl f7, .inl f8, .inl f9, .inl f10, .inl o.2.2.1, .inl o.2.2.2.1, .inl f13, .inl o.2.2.2.2.1, .inl f15] [o.2.2.2.2.2.1, o.2.2.2.2.2.2.1, g2, g3, g4, g5, g6, g7, g8, o.2.2.2.2.2.2.2, g10, g11] := zv_meth (K := (z_KF6, z_KC6, z_KL6, z_KT6, [], [], [], none)) (FT := z_FT) (MT := z_MT) (n := 3) zxp168 (z_ks6 _ (fun _ h => List.mem_cons_of_mem _ h) _ _ _ _ (fun j r h _ => by cases h)) (fun _ _ => zs_KX_p) zyw_Pilot_stepFirstLegs (fun va F G h => by obtain ⟨rfl, _⟩ := h; rfl) (fun va F G h => by obtain ⟨rfl, _⟩ := h; rfl) rfl fun good va F G hB hret hvret hP => by
  obtain ⟨rfl, rfl, rfl⟩ := hP
  have l0 : ∀ (n : Nat) (x3 : Int) (f3 : Int) (f4 : Int) (f11 : Int) (f12 : Int) (f14 : Int) (g0 : (Int → Int)) (g1 : (Int → Int)) (g9 : (Int → Int)) (q : Int × Int × Int × Int × Int × (Int → Int) × (Int → Int) × (Int → Int)), zf_Pilot_stepFirstLegs_l0 f1 f5 f6 f7 f8 f9 f10 f13 f15 g2 g3 g4 g5 g6 g7 g8 g10 g11 n x3 f3 f4 f11 f12 f14 g0 g1 g9 = some q → (good 44 [.inr 1000, .inr 1000, .inr 1000, .inr 1000] [] [.inr 3, .inl f1, .inr 5, .inl q.1, .inl q.2.1, .inl f5, .inl f6, .inl f7, .inl f8, .inl f9, .inl f10, .inl q.2.2.1, .inl q.2.2.2.1, .inl f13, .inl q.2.2.2.2.1, .inl f15] [q.2.2.2.2.2.1, q.2.2.2.2.2.2.1, g2, g3, g4, g5, g6, g7, g8, q.2.2.2.2.2.2.2, g10, g11]) → good 2 [.inr 0, .inr 1, .inr 2, .inl x3] [] [.inr 3, .inl f1, .inr 5, .inl f3, .inl f4, .inl f5, .inl f6, .inl f7, .inl f8, .inl f9, .inl f10, .inl f11, .inl f12, .inl f13, .inl f14, .inl f15] [g0, g1, g2, g3, g4, g5, g6, g7, g8, g9, g10, g11] := by
    intro n
    induction n with
    | zero => intro x3 f3 f4 f11 f12 f14 g0 g1 g9 q h; exact absurd (show none = some q from h) (fun h => by cases h)
    | succ n ih =>
      intro x3 f3 f4 f11 f12 f14 g0 g1 g9 q h hK
      replace h : zf_Pilot_stepFirstLegs_l0_b f1 f5 f6 f7 f8 f9 f10 f13 f15 g2 g3 g4 g5 g6 g7 g8 g10 g11 (zf_Pilot_stepFirstLegs_l0 f1 f5 f6 f7 f8 f9 f10 f13 f15 g2 g3 g4 g5 g6 g7 g8 g10 g11 n) x3 f3 f4 f11 f12 f14 g0 g1 g9 = some q := h
      unfold zf_Pilot_stepFirstLegs_l0_b at h
      refine zv_ild hB zd168_2 rfl rfl ?_
      refine zv_con hB zd168_3 rfl ?_
      refine zv_cge hB zd168_5 rfl (fun hc1 => ?_) (fun hc1 => ?_)
      · rw [if_neg (Int.not_lt.mpr hc1)] at h
        have hq := Option.some.inj h
        subst hq
        refine zv_wk hB (L' := [.inr 1000, .inr 1000, .inr 1000, .inr 1000]) (F' := [.inr 3, .inl f1, .inr 5, .inl f3, .inl f4, .inl f5, .inl f6, .inl f7, .inl f8, .inl f9, .inl f10, .inl f11, .inl f12, .inl f13, .inl f14, .inl f15]) ⟨fun (h : zv_is (.inr 1000)) => (Nat.lt_irrefl 1000 h).elim, fun (h : zv_is (.inr 1000)) => (Nat.lt_irrefl 1000 h).elim, fun (h : zv_is (.inr 1000)) => (Nat.lt_irrefl 1000 h).elim, fun (h : zv_is (.inr 1000)) => (Nat.lt_irrefl 1000 h).elim, trivial⟩ ⟨fun _ => rfl, fun _ => rfl, fun _ => rfl, fun _ => rfl, fun _ => rfl, fun _ => rfl, fun _ => rfl, fun _ => rfl, fun _ => rfl, fun _ => rfl, fun _ => rfl, fun _ => rfl, fun _ => rfl, fun _ => rfl, fun _ => rfl, fun _ => rfl, trivial⟩ ?_
        exact hK
      · rw [if_pos hc1] at h
        refine zv_ald hB zd168_8 rfl rfl rfl ?_
        refine zv_getq hB zd168_9 rfl rfl rfl ?_
        refine zv_ild hB zd168_12 rfl rfl ?_
        obtain ⟨r2, hr2, h⟩ := zi_bind h
        refine zv_cv hB (zv_emq (va2 := [.inr 3, .inl x3]) (F := [.inr 3, .inl f1, .inr 5, .inl f3, .inl f4, .inl f5, .inl f6, .inl f7, .inl f8, .inl f9, .inl f10, .inl f11, .inl f12, .inl f13, .inl f14, .inl f15]) (F' := [.inr 3, .inl f1, .inr 5, .inl f3, .inl f4, .inl f5, .inl f6, .inl f7, .inl f8, .inl f9, .inl f10, .inl f11, .inl f12, .inl f13, .inl f14, .inl f15]) (G := [g0, g1, g2, g3, g4, g5, g6, g7, g8, g9, g10, g11]) (G' := [g0, g1, g2, g3, g4, g5, g6, g7, g8, g9, g10, g11]) (ρ := [3]) (φ := [1]) (ψ := []) [none, some 0, none, none, none, none, none, none, none, none, none, none, none, none, none, none] [none, none, none, none, none, none, none, none, none, none, none, none] zyw_Sky_hasStar zyw_Pilot_stepFirstLegs zye_Pilot_stepFirstLegs (by decide +kernel) (zt_Sky_hasStar hr2) ⟨⟨_, rfl, fun _ => rfl⟩, trivial⟩ trivial rfl rfl rfl rfl rfl rfl rfl) zd168_13 zxt18 rfl (by decide) (by decide) rfl ?_
        refine zv_zeq hB zd168_16 rfl (fun hc3 => ?_) (fun hc3 => ?_)
        · rw [if_pos hc3] at h
          refine zv_iincw hB zd168_38 rfl rfl ?_
          refine zv_goto hB zd168_41 rfl ?_
          exact ih _ _ _ _ _ _ _ _ _ q h hK
        · rw [if_neg hc3] at h
          refine zv_ald hB zd168_19 rfl rfl rfl ?_
          refine zv_getr hB zd168_20 rfl ?_
          refine zv_ild hB zd168_23 rfl rfl ?_
          refine zv_ald hB zd168_24 rfl rfl rfl ?_
          refine zv_ald hB zd168_25 rfl rfl rfl ?_
          refine zv_ald hB zd168_26 rfl rfl rfl ?_
          refine zv_ald hB zd168_27 rfl rfl rfl ?_
          refine zv_getr hB zd168_28 rfl ?_
          refine zv_ild hB zd168_31 rfl rfl ?_
          obtain ⟨c4, h⟩ := zi_if h
          refine zv_iald hB zd168_32 rfl rfl (zi_ix_ok c4).1 (zi_ix_ok c4).2 (fun _ _ => ?_)
          refine zv_ild hB zd168_33 rfl rfl ?_
          obtain ⟨r5, hr5, h⟩ := zi_bind h
          refine zv_cv hB (zv_emq (va2 := [.inr 0, .inr 1, .inr 2, .inl (g0 x3), .inl x3]) (F := [.inr 3, .inl f1, .inr 5, .inl f3, .inl f4, .inl f5, .inl f6, .inl f7, .inl f8, .inl f9, .inl f10, .inl f11, .inl f12, .inl f13, .inl f14, .inl f15]) (F' := [.inr 3, .inl f1, .inr 5, .inl r5.2.1, .inl r5.2.2.1, .inl f5, .inl f6, .inl f7, .inl f8, .inl f9, .inl f10, .inl r5.2.2.2.1, .inl r5.2.2.2.2.1, .inl f13, .inl r5.2.2.2.2.2.1, .inl f15]) (G := [g0, g1, g2, g3, g4, g5, g6, g7, g8, g9, g10, g11]) (G' := [g0, r5.2.2.2.2.2.2.1, g2, g3, g4, g5, g6, g7, g8, r5.2.2.2.2.2.2.2, g10, g11]) (ρ := [0, 1, 2, 5, 6, 3, 7, 8, 9, 10, 11, 12, 13, 14, 15, 16]) (φ := [2, 0, 3, 4, 5, 6, 1, 7, 8, 9, 10, 11, 12, 13, 14, 15]) (ψ := [1, 2, 3, 4, 5, 6, 7, 8, 9, 10, 11]) [some 1, some 6, some 0, some 2, some 3, some 4, some 5, some 7, some 8, some 9, some 10, some 11, some 12, some 13, some 14, some 15] [none, some 0, some 1, some 2, some 3, some 4, some 5, some 6, some 7, some 8, some 9, some 10] zyw_Pilot_step zyw_Pilot_stepFirstLegs zye_Pilot_stepFirstLegs (by decide +kernel) (zt_Pilot_step hr5) ⟨⟨_, rfl, fun _ => rfl⟩, ⟨_, rfl, fun _ => rfl⟩, ⟨_, rfl, fun _ => rfl⟩, ⟨_, rfl, fun _ => rfl⟩, ⟨_, rfl, fun _ => rfl⟩, ⟨_, rfl, fun _ => rfl⟩, ⟨_, rfl, fun _ => rfl⟩, ⟨_, rfl, fun _ => rfl⟩, ⟨_, rfl, fun _ => rfl⟩, ⟨_, rfl, fun _ => rfl⟩, ⟨_, rfl, fun _ => rfl⟩, ⟨_, rfl, fun _ => rfl⟩, ⟨_, rfl, fun _ => rfl⟩, ⟨_, rfl, fun _ => rfl⟩, ⟨_, rfl, fun _ => rfl⟩, ⟨_, rfl, fun _ => rfl⟩, trivial⟩ ⟨rfl, rfl, rfl, rfl, rfl, rfl, rfl, rfl, rfl, rfl, rfl, trivial⟩ rfl rfl rfl rfl rfl rfl rfl) zd168_34 zxt153 rfl (by decide) (by decide) rfl ?_
          refine zv_iast hB zd168_37 rfl rfl (zi_ix_ok c4).1 (zi_ix_ok c4).2 ?_
          refine zv_iincw hB zd168_38 rfl rfl ?_
          refine zv_goto hB zd168_41 rfl ?_
          exact ih _ _ _ _ _ _ _ _ _ q h hK
  unfold zf_Pilot_stepFirstLegs at h
  refine zv_con hB zd168_0 rfl ?_
  refine zv_ist hB zd168_1 rfl rfl rfl ?_
  obtain ⟨q6, hq6, h⟩ := zi_bind h
  refine l0 _ _ _ _ _ _ _ _ _ _ q6 hq6 ?_
  show good 44 [.inr 1000, .inr 1000, .inr 1000, .inr 1000] [] [.inr 3, .inl f1, .inr 5, .inl q6.1, .inl q6.2.1, .inl f5, .inl f6, .inl f7, .inl f8, .inl f9, .inl f10, .inl q6.2.2.1, .inl q6.2.2.2.1, .inl f13, .inl q6.2.2.2.2.1, .inl f15] [q6.2.2.2.2.2.1, q6.2.2.2.2.2.2.1, g2, g3, g4, g5, g6, g7, g8, q6.2.2.2.2.2.2.2, g10, g11]
  have hw := Option.some.inj h
  subst hw
  exact hvret _ _ _ _ zd168_44 trivial ⟨rfl, rfl, rfl⟩
/-! Pilot_turnOnward (LStarTales$View;)V -/
-- names: 0 Pilot('arg', 0), 1 View('arg', 1), 2 Sky(1, 7, 0), 3 (0, 24)(2, 1, 1), 4 (0, 24)(2, 1, 4), 5 (0, 24)(2, 1, 2), 6 (0, 24)(2, 1, 5), 7 Law(1, 7, 1), 8 (0, 24)(1, 7, 8)
-- fields: f0 = 1.sky_, f1 = 2.hour_, f2 = 2.night_, f3 = 1.law_, f4 = 1.starsAsked_; arrays: g0 = 3, g1 = 4, g2 = 5, g3 = 6, g4 = 8; out: [('f', 1), ('f', 2), ('f', 4), ('g', 0), ('g', 2), ('g', 4)]
abbrev zy_Pilot_turnOnward : zNL := (9, [(0, 9), (1, 7), (2, 1), (7, 4)], [(1, 7, 0, 0), (2, 1, 6, 1), (2, 1, 7, 2), (1, 7, 1, 3), (1, 7, 6, 4)], [(2, 1, 1, 3), (2, 1, 4, 4), (2, 1, 2, 5), (2, 1, 5, 6), (1, 7, 8, 8)], [(3, 0, 24, 0), (4, 0, 24, 1), (5, 0, 24, 2), (6, 0, 24, 3), (8, 0, 24, 4)])
theorem zyw_Pilot_turnOnward : zv_wf zy_Pilot_turnOnward = true := by decide +kernel
theorem zye_Pilot_turnOnward : zv_ek2 zy_Pilot_turnOnward = true := by decide +kernel
def zf_Pilot_turnOnward (f1 : Int) (f2 : Int) (f4 : Int) (g0 : (Int → Int)) (g1 : (Int → Int)) (g2 : (Int → Int)) (g3 : (Int → Int)) (g4 : (Int → Int)) : Option (Int × Int × Int × (Int → Int) × (Int → Int) × (Int → Int)) := (zf_Sky_passHour f1 f2 g0 g1 g2 g3).bind fun r1 => ((zf_View_open f4 g4).bind fun r2 => (some (r1.1, r1.2.1, r2.1, r1.2.2.1, r1.2.2.2, r2.2)))
theorem zd169_0 : decode zxm169.2.1 0 = .ok (.aload_n 1, 1) := by decide +kernel
theorem zd169_1 : decode zxm169.2.1 1 = .ok (.getfield 75, 3) := by decide +kernel
theorem zd169_4 : decode zxm169.2.1 4 = .ok (.invokevirtual 147, 3) := by decide +kernel
theorem zd169_7 : decode zxm169.2.1 7 = .ok (.aload_n 1, 1) := by decide +kernel
theorem zd169_8 : decode zxm169.2.1 8 = .ok (.aload_n 1, 1) := by decide +kernel
theorem zd169_9 : decode zxm169.2.1 9 = .ok (.getfield 75, 3) := by decide +kernel
theorem zd169_12 : decode zxm169.2.1 12 = .ok (.aload_n 1, 1) := by decide +kernel
theorem zd169_13 : decode zxm169.2.1 13 = .ok (.getfield 135, 3) := by decide +kernel
theorem zd169_16 : decode zxm169.2.1 16 = .ok (.invokevirtual 139, 3) := by decide +kernel
theorem zd169_19 : decode zxm169.2.1 19 = .ok (.return_, 1) := by decide +kernel
theorem zt_Pilot_turnOnward {f1 : Int} {f2 : Int} {f4 : Int} {g0 : (Int → Int)} {g1 : (Int → Int)} {g2 : (Int → Int)} {g3 : (Int → Int)} {g4 : (Int → Int)} {o : Int × Int × Int × (Int → Int) × (Int → Int) × (Int → Int)} (h : zf_Pilot_turnOnward f1 f2 f4 g0 g1 g2 g3 g4 = some o) : zv_Fn z_TB z_cl z_KX zy_Pilot_turnOnward zxm169 (4, 240) [.inr 0, .inr 1] [.inr 2, .inl f1, .inl f2, .inr 7, .inl f4] [g0, g1, g2, g3, g4] none [.inr 2, .inl o.1, .inl o.2.1, .inr 7, .inl o.2.2.1] [o.2.2.2.1, g1, o.2.2.2.2.1, g3, o.2.2.2.2.2] := zv_meth (K := (z_KF6, z_KC6, z_KL6, z_KT6, [], [], [], none)) (FT := z_FT) (MT := z_MT) (n := 2) zxp169 (z_ks6 _ (fun _ h => List.mem_cons_of_mem _ h) _ _ _ _ (fun j r h _ => by cases h)) (fun _ _ => zs_KX_p) zyw_Pilot_turnOnward (fun va F G h => by obtain ⟨rfl, _⟩ := h; rfl) (fun va F G h => by obtain ⟨rfl, _⟩ := h; rfl) rfl fun good va F G hB hret hvret hP => by
  obtain ⟨rfl, rfl, rfl⟩ := hP
  unfold zf_Pilot_turnOnward at h
  refine zv_ald hB zd169_0 rfl rfl rfl ?_
  refine zv_getq hB zd169_1 rfl rfl rfl ?_
  obtain ⟨r1, hr1, h⟩ := zi_bind h
  refine zv_cv hB (zv_emq (va2 := [.inr 2]) (F := [.inr 2, .inl f1, .inl f2, .inr 7, .inl f4]) (F' := [.inr 2, .inl r1.1, .inl r1.2.1, .inr 7, .inl f4]) (G := [g0, g1, g2, g3, g4]) (G' := [r1.2.2.1, g1, r1.2.2.2, g3, g4]) (ρ := [2, 3, 4, 5, 6]) (φ := [1, 2]) (ψ := [0, 1, 2, 3]) [none, some 0, some 1, none, none] [some 0, some 1, some 2, some 3, none] zyw_Sky_passHour zyw_Pilot_turnOnward zye_Pilot_turnOnward (by decide +kernel) (zt_Sky_passHour hr1) ⟨⟨_, rfl, fun _ => rfl⟩, ⟨_, rfl, fun _ => rfl⟩, trivial⟩ ⟨rfl, rfl, rfl, rfl, trivial⟩ rfl rfl rfl rfl rfl rfl rfl) zd169_4 zxt155 rfl (by decide) (by decide) rfl ?_
  refine zv_ald hB zd169_7 rfl rfl rfl ?_
  refine zv_ald hB zd169_8 rfl rfl rfl ?_
  refine zv_getq hB zd169_9 rfl rfl rfl ?_
  refine zv_ald hB zd169_12 rfl rfl rfl ?_
  refine zv_getq hB zd169_13 rfl rfl rfl ?_
  obtain ⟨r2, hr2, h⟩ := zi_bind h
  refine zv_cv hB (zv_emq (va2 := [.inr 1, .inr 2, .inr 7]) (F := [.inr 2, .inl r1.1, .inl r1.2.1, .inr 7, .inl f4]) (F' := [.inr 2, .inl r1.1, .inl r1.2.1, .inr 7, .inl r2.1]) (G := [r1.2.2.1, g1, r1.2.2.2, g3, g4]) (G' := [r1.2.2.1, g1, r1.2.2.2, g3, r2.2]) (ρ := [1, 2, 7, 8]) (φ := [0, 3, 4]) (ψ := [4]) [some 0, none, none, some 1, some 2] [none, none, none, none, some 0] zyw_View_open zyw_Pilot_turnOnward zye_Pilot_turnOnward (by decide +kernel) (zt_View_open hr2) ⟨⟨_, rfl, fun (h : zv_is (.inr 1000)) => (Nat.lt_irrefl 1000 h).elim⟩, ⟨_, rfl, fun (h : zv_is (.inr 1000)) => (Nat.lt_irrefl 1000 h).elim⟩, ⟨_, rfl, fun _ => rfl⟩, trivial⟩ ⟨rfl, trivial⟩ rfl rfl rfl rfl rfl rfl rfl) zd169_16 zxt84 rfl (by decide) (by decide) rfl ?_
  have hw := Option.some.inj h
  subst hw
  exact hvret _ _ _ _ zd169_19 trivial ⟨rfl, rfl, rfl⟩
