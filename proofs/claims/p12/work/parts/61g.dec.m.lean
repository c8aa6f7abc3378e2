/-! 61g.dec, 61h.dec, 61i.dec -/
section
/-! Methods as functions, and that they do what these do. -/
/-! X_meeting (III)I -/
-- names: 0 StarTales('arg', 0), 1 Sea(0, 0, 3), 2 Pilot(0, 0, 15), 3 (0, 6)(1, 2, 2), 4 (0, 288)(2, 9, 12), 5 (0, 288)(2, 9, 14), 6 (0, 12)(1, 2, 0), 7 (0, 288)(2, 9, 13)
-- fields: f0 = 1.shipsTold_; arrays: g0 = 3, g1 = 4, g2 = 5, g3 = 6, g4 = 7; out: [('ret', None), ('g', 1), ('g', 2), ('g', 4)]
abbrev zy_X_meeting : zNL := (8, [(0, 0), (1, 2), (2, 9)], [(1, 2, 1, 0)], [(0, 0, 3, 1), (0, 0, 15, 2), (1, 2, 2, 3), (2, 9, 12, 4), (2, 9, 14, 5), (1, 2, 0, 6), (2, 9, 13, 7)], [(3, 0, 6, 0), (4, 0, 288, 1), (5, 0, 288, 2), (6, 0, 12, 3), (7, 0, 288, 4)])
theorem zyw_X_meeting : zv_wf zy_X_meeting = true := by decide +kernel
theorem zye_X_meeting : zv_ek2 zy_X_meeting = true := by decide +kernel
def zf_X_meeting (x1 : Int) (x2 : Int) (x3 : Int) (f0 : Int) (g0 : (Int → Int)) (g1 : (Int → Int)) (g2 : (Int → Int)) (g3 : (Int → Int)) (g4 : (Int → Int)) : Option (Int × (Int → Int) × (Int → Int) × (Int → Int)) := (zf_Sea_hasShip x1 f0).bind fun r1 => (if r1 = 0 then (some ((-1), g1, g2, g4)) else ((zf_Sea_hasShip x2 f0).bind fun r3 => (if r3 = 0 then (some ((-1), g1, g2, g4)) else ((zf_X_isWithin x3 0 1).bind fun r5 => (if r5 = 0 then (some ((-1), g1, g2, g4)) else (cond (zi_ix x1 6) (cond (zi_ix x2 6) ((zf_Pilot_meetingPlace (g0 x1) (g0 x2) g1 g2 g3 g4).bind fun r9 => (if r9.1 = (-1) then (some ((-2), r9.2.1, r9.2.2.1, r9.2.2.2)) else (if x3 = 1 then (some (r9.1, r9.2.1, r9.2.2.1, r9.2.2.2)) else ((zf_Pilot_hoursTo r9.1 r9.2.1 r9.2.2.2).bind fun r12 => (some (r12, r9.2.1, r9.2.2.1, r9.2.2.2)))))) none) none))))))
theorem zd161_0 : decode zxm161.2.1 0 = .ok (.aload_n 0, 1) := by decide +kernel
theorem zd161_1 : decode zxm161.2.1 1 = .ok (.getfield 25, 3) := by decide +kernel
theorem zd161_4 : decode zxm161.2.1 4 = .ok (.iload_n 1, 1) := by decide +kernel
theorem zd161_5 : decode zxm161.2.1 5 = .ok (.invokevirtual 323, 3) := by decide +kernel
theorem zd161_8 : decode zxm161.2.1 8 = .ok (.ifCond .eq 23, 3) := by decide +kernel
theorem zd161_11 : decode zxm161.2.1 11 = .ok (.aload_n 0, 1) := by decide +kernel
theorem zd161_12 : decode zxm161.2.1 12 = .ok (.getfield 25, 3) := by decide +kernel
theorem zd161_15 : decode zxm161.2.1 15 = .ok (.iload_n 2, 1) := by decide +kernel
theorem zd161_16 : decode zxm161.2.1 16 = .ok (.invokevirtual 323, 3) := by decide +kernel
theorem zd161_19 : decode zxm161.2.1 19 = .ok (.ifCond .eq 12, 3) := by decide +kernel
theorem zd161_22 : decode zxm161.2.1 22 = .ok (.iload_n 3, 1) := by decide +kernel
theorem zd161_23 : decode zxm161.2.1 23 = .ok (.iconst 0, 1) := by decide +kernel
theorem zd161_24 : decode zxm161.2.1 24 = .ok (.iconst 1, 1) := by decide +kernel
theorem zd161_25 : decode zxm161.2.1 25 = .ok (.invokestatic 126, 3) := by decide +kernel
theorem zd161_28 : decode zxm161.2.1 28 = .ok (.ifCond .ne 5, 3) := by decide +kernel
theorem zd161_31 : decode zxm161.2.1 31 = .ok (.iconst (-1), 1) := by decide +kernel
theorem zd161_32 : decode zxm161.2.1 32 = .ok (.ireturn, 1) := by decide +kernel
theorem zd161_33 : decode zxm161.2.1 33 = .ok (.aload_n 0, 1) := by decide +kernel
theorem zd161_34 : decode zxm161.2.1 34 = .ok (.getfield 103, 3) := by decide +kernel
theorem zd161_37 : decode zxm161.2.1 37 = .ok (.aload_n 0, 1) := by decide +kernel
theorem zd161_38 : decode zxm161.2.1 38 = .ok (.getfield 25, 3) := by decide +kernel
theorem zd161_41 : decode zxm161.2.1 41 = .ok (.aload_n 0, 1) := by decide +kernel
theorem zd161_42 : decode zxm161.2.1 42 = .ok (.getfield 25, 3) := by decide +kernel
theorem zd161_45 : decode zxm161.2.1 45 = .ok (.getfield 187, 3) := by decide +kernel
theorem zd161_48 : decode zxm161.2.1 48 = .ok (.iload_n 1, 1) := by decide +kernel
theorem zd161_49 : decode zxm161.2.1 49 = .ok (.iaload, 1) := by decide +kernel
theorem zd161_50 : decode zxm161.2.1 50 = .ok (.aload_n 0, 1) := by decide +kernel
theorem zd161_51 : decode zxm161.2.1 51 = .ok (.getfield 25, 3) := by decide +kernel
theorem zd161_54 : decode zxm161.2.1 54 = .ok (.getfield 187, 3) := by decide +kernel
theorem zd161_57 : decode zxm161.2.1 57 = .ok (.iload_n 2, 1) := by decide +kernel
theorem zd161_58 : decode zxm161.2.1 58 = .ok (.iaload, 1) := by decide +kernel
theorem zd161_59 : decode zxm161.2.1 59 = .ok (.invokevirtual 346, 3) := by decide +kernel
theorem zd161_62 : decode zxm161.2.1 62 = .ok (.istore 4, 2) := by decide +kernel
theorem zd161_64 : decode zxm161.2.1 64 = .ok (.iload 4, 2) := by decide +kernel
theorem zd161_66 : decode zxm161.2.1 66 = .ok (.iconst (-1), 1) := by decide +kernel
theorem zd161_67 : decode zxm161.2.1 67 = .ok (.if_icmp .ne 6, 3) := by decide +kernel
theorem zd161_70 : decode zxm161.2.1 70 = .ok (.bipush (-2), 2) := by decide +kernel
theorem zd161_72 : decode zxm161.2.1 72 = .ok (.ireturn, 1) := by decide +kernel
theorem zd161_73 : decode zxm161.2.1 73 = .ok (.iload_n 3, 1) := by decide +kernel
theorem zd161_74 : decode zxm161.2.1 74 = .ok (.iconst 1, 1) := by decide +kernel
theorem zd161_75 : decode zxm161.2.1 75 = .ok (.if_icmp .ne 8, 3) := by decide +kernel
theorem zd161_78 : decode zxm161.2.1 78 = .ok (.iload 4, 2) := by decide +kernel
theorem zd161_80 : decode zxm161.2.1 80 = .ok (.goto 12, 3) := by decide +kernel
theorem zd161_83 : decode zxm161.2.1 83 = .ok (.aload_n 0, 1) := by decide +kernel
theorem zd161_84 : decode zxm161.2.1 84 = .ok (.getfield 103, 3) := by decide +kernel
theorem zd161_87 : decode zxm161.2.1 87 = .ok (.iload 4, 2) := by decide +kernel
theorem zd161_89 : decode zxm161.2.1 89 = .ok (.invokevirtual 350, 3) := by decide +kernel
theorem zd161_92 : decode zxm161.2.1 92 = .ok (.ireturn, 1) := by decide +kernel
theorem zt_X_meeting {x1 : Int} {x2 : Int} {x3 : Int} {f0 : Int} {g0 : (Int → Int)} {g1 : (Int → Int)} {g2 : (Int → Int)} {g3 : (Int → Int)} {g4 : (Int → Int)} {o : Int × (Int → Int) × (Int → Int) × (Int → Int)} (h : zf_X_meeting x1 x2 x3 f0 g0 g1 g2 g3 g4 = some o) : zv_Fn z_TB z_cl z_KX zy_X_meeting zxm161 (5, 300) [.inr 0, .inl x1, .inl x2, .inl x3] [.inl f0] [g0, g1, g2, g3, g4] (some o.1) [.inl f0] [g0, o.2.1, o.2.2.1, g3, o.2.2.2] := zv_meth (K := (z_KF0, z_KC0, z_KL0, z_KT0, [], [], [], none)) (FT := z_FT) (MT := z_MT) (n := 4) zxp161 (z_ks0 _ (fun _ h => List.mem_cons_of_mem _ h) _ _ _ _ (fun j r h _ => by cases h)) (fun _ _ => zs_KX_p) zyw_X_meeting (fun va F G h => by obtain ⟨rfl, _⟩ := h; rfl) (fun va F G h => by obtain ⟨rfl, _⟩ := h; rfl) rfl fun good va F G hB hret hvret hP => by
  obtain ⟨rfl, rfl, rfl⟩ := hP
  unfold zf_X_meeting at h
  refine zv_ald hB zd161_0 rfl rfl rfl ?_
  refine zv_getr hB zd161_1 rfl ?_
  refine zv_ild hB zd161_4 rfl rfl ?_
  obtain ⟨r1, hr1, h⟩ := zi_bind h
  refine zv_cv hB (zv_emq (va2 := [.inr 1, .inl x1]) (F := [.inl f0]) (F' := [.inl f0]) (G := [g0, g1, g2, g3, g4]) (G' := [g0, g1, g2, g3, g4]) (ρ := [1]) (φ := [0]) (ψ := []) [some 0] [none, none, none, none, none] zyw_Sea_hasShip zyw_X_meeting zye_X_meeting (by decide +kernel) (zt_Sea_hasShip hr1) ⟨⟨_, rfl, fun _ => rfl⟩, trivial⟩ trivial rfl rfl rfl rfl rfl rfl rfl) zd161_5 zxt26 rfl (by decide) (by decide) rfl ?_
  refine zv_zeq hB zd161_8 rfl (fun hc2 => ?_) (fun hc2 => ?_)
  · rw [if_pos hc2] at h
    refine zv_con hB zd161_31 rfl ?_
    have hw := Option.some.inj h
    subst hw
    exact hret _ _ _ _ _ zd161_32 (by trivial) ⟨rfl, rfl, rfl⟩
  · rw [if_neg hc2] at h
    refine zv_ald hB zd161_11 rfl rfl rfl ?_
    refine zv_getr hB zd161_12 rfl ?_
    refine zv_ild hB zd161_15 rfl rfl ?_
    obtain ⟨r3, hr3, h⟩ := zi_bind h
    refine zv_cv hB (zv_emq (va2 := [.inr 1, .inl x2]) (F := [.inl f0]) (F' := [.inl f0]) (G := [g0, g1, g2, g3, g4]) (G' := [g0, g1, g2, g3, g4]) (ρ := [1]) (φ := [0]) (ψ := []) [some 0] [none, none, none, none, none] zyw_Sea_hasShip zyw_X_meeting zye_X_meeting (by decide +kernel) (zt_Sea_hasShip hr3) ⟨⟨_, rfl, fun _ => rfl⟩, trivial⟩ trivial rfl rfl rfl rfl rfl rfl rfl) zd161_16 zxt26 rfl (by decide) (by decide) rfl ?_
    refine zv_zeq hB zd161_19 rfl (fun hc4 => ?_) (fun hc4 => ?_)
    · rw [if_pos hc4] at h
      refine zv_con hB zd161_31 rfl ?_
      have hw := Option.some.inj h
      subst hw
      exact hret _ _ _ _ _ zd161_32 (by trivial) ⟨rfl, rfl, rfl⟩
    · rw [if_neg hc4] at h
      refine zv_ild hB zd161_22 rfl rfl ?_
      refine zv_con hB zd161_23 rfl ?_
      refine zv_con hB zd161_24 rfl ?_
      obtain ⟨r5, hr5, h⟩ := zi_bind h
      refine zv_cs hB (zv_emq (va2 := [.inl x3, .inl 0, .inl 1]) (F := [.inl f0]) (F' := [.inl f0]) (G := [g0, g1, g2, g3, g4]) (G' := [g0, g1, g2, g3, g4]) (ρ := []) (φ := []) (ψ := []) [none] [none, none, none, none, none] zyw_X_isWithin zyw_X_meeting zye_X_meeting (by decide +kernel) (zt_X_isWithin hr5) trivial trivial rfl rfl rfl rfl rfl rfl rfl) zd161_25 zxt15 rfl (by decide) (by decide) rfl ?_
      refine zv_zne hB zd161_28 rfl (fun hc6 => ?_) (fun hc6 => ?_)
      · rw [if_neg hc6] at h
        refine zv_ald hB zd161_33 rfl rfl rfl ?_
        refine zv_getr hB zd161_34 rfl ?_
        refine zv_ald hB zd161_37 rfl rfl rfl ?_
        refine zv_getr hB zd161_38 rfl ?_
        refine zv_ald hB zd161_41 rfl rfl rfl ?_
        refine zv_getr hB zd161_42 rfl ?_
        refine zv_getr hB zd161_45 rfl ?_
        refine zv_ild hB zd161_48 rfl rfl ?_
        obtain ⟨c7, h⟩ := zi_if h
        refine zv_iald hB zd161_49 rfl rfl (zi_ix_ok c7).1 (zi_ix_ok c7).2 (fun _ _ => ?_)
        refine zv_ald hB zd161_50 rfl rfl rfl ?_
        refine zv_getr hB zd161_51 rfl ?_
        refine zv_getr hB zd161_54 rfl ?_
        refine zv_ild hB zd161_57 rfl rfl ?_
        obtain ⟨c8, h⟩ := zi_if h
        refine zv_iald hB zd161_58 rfl rfl (zi_ix_ok c8).1 (zi_ix_ok c8).2 (fun _ _ => ?_)
        obtain ⟨r9, hr9, h⟩ := zi_bind h
        refine zv_cv hB (zv_emq (va2 := [.inr 2, .inr 1, .inl (g0 x1), .inl (g0 x2)]) (F := [.inl f0]) (F' := [.inl f0]) (G := [g0, g1, g2, g3, g4]) (G' := [g0, r9.2.1, r9.2.2.1, g3, r9.2.2.2]) (ρ := [2, 1, 4, 5, 6, 7]) (φ := []) (ψ := [1, 2, 3, 4]) [none] [none, some 0, some 1, some 2, some 3] zyw_Pilot_meetingPlace zyw_X_meeting zye_X_meeting (by decide +kernel) (zt_Pilot_meetingPlace hr9) trivial ⟨rfl, rfl, rfl, rfl, trivial⟩ rfl rfl rfl rfl rfl rfl rfl) zd161_59 zxt162 rfl (by decide) (by decide) rfl ?_
        refine zv_ist hB zd161_62 rfl rfl rfl ?_
        refine zv_ild hB zd161_64 rfl rfl ?_
        refine zv_con hB zd161_66 rfl ?_
        refine zv_cne hB zd161_67 rfl (fun hc10 => ?_) (fun hc10 => ?_)
        · rw [if_neg hc10] at h
          refine zv_ild hB zd161_73 rfl rfl ?_
          refine zv_con hB zd161_74 rfl ?_
          refine zv_cne hB zd161_75 rfl (fun hc11 => ?_) (fun hc11 => ?_)
          · rw [if_neg hc11] at h
            refine zv_ald hB zd161_83 rfl rfl rfl ?_
            refine zv_getr hB zd161_84 rfl ?_
            refine zv_ild hB zd161_87 rfl rfl ?_
            obtain ⟨r12, hr12, h⟩ := zi_bind h
            refine zv_cv hB (zv_emq (va2 := [.inr 2, .inl r9.1]) (F := [.inl f0]) (F' := [.inl f0]) (G := [g0, r9.2.1, r9.2.2.1, g3, r9.2.2.2]) (G' := [g0, r9.2.1, r9.2.2.1, g3, r9.2.2.2]) (ρ := [2, 4, 7]) (φ := []) (ψ := [1, 4]) [none] [none, some 0, none, none, some 1] zyw_Pilot_hoursTo zyw_X_meeting zye_X_meeting (by decide +kernel) (zt_Pilot_hoursTo hr12) trivial ⟨rfl, rfl, trivial⟩ rfl rfl rfl rfl rfl rfl rfl) zd161_89 zxt164 rfl (by decide) (by decide) rfl ?_
            have hw := Option.some.inj h
            subst hw
            exact hret _ _ _ _ _ zd161_92 (by trivial) ⟨rfl, rfl, rfl⟩
          · rw [if_pos hc11] at h
            refine zv_ild hB zd161_78 rfl rfl ?_
            refine zv_goto hB zd161_80 rfl ?_
            have hw := Option.some.inj h
            subst hw
            exact hret _ _ _ _ _ zd161_92 (by trivial) ⟨rfl, rfl, rfl⟩
        · rw [if_pos hc10] at h
          refine zv_con hB zd161_70 rfl ?_
          have hw := Option.some.inj h
          subst hw
          exact hret _ _ _ _ _ zd161_72 (by trivial) ⟨rfl, rfl, rfl⟩
      · rw [if_pos hc6] at h
        refine zv_con hB zd161_31 rfl ?_
        have hw := Option.some.inj h
        subst hw
        exact hret _ _ _ _ _ zd161_32 (by trivial) ⟨rfl, rfl, rfl⟩
/-! X_canAskVoyage (III)Z -/
-- names: 0 StarTales('arg', 0), 1 Sea(0, 0, 3), 2 Sky(0, 0, 0)
-- fields: f0 = 1.shipsTold_, f1 = 2.told_; arrays: ; out: [('ret', None)]
abbrev zy_X_canAskVoyage : zNL := (3, [(0, 0), (1, 2), (2, 1)], [(1, 2, 1, 0), (2, 1, 0, 1)], [(0, 0, 3, 1), (0, 0, 0, 2)], [])
theorem zyw_X_canAskVoyage : zv_wf zy_X_canAskVoyage = true := by decide +kernel
theorem zye_X_canAskVoyage : zv_ek2 zy_X_canAskVoyage = true := by decide +kernel
def zf_X_canAskVoyage (x1 : Int) (x2 : Int) (x3 : Int) (f0 : Int) (f1 : Int) : Option (Int) := (zf_Sea_hasShip x1 f0).bind fun r1 => (if r1 = 0 then (some 0) else ((zf_X_isPlace x2 x3).bind fun r3 => (if r3 = 0 then (some 0) else (if f1 = 0 then (some 0) else (some 1)))))
theorem zd166_0 : decode zxm166.2.1 0 = .ok (.aload_n 0, 1) := by decide +kernel
theorem zd166_1 : decode zxm166.2.1 1 = .ok (.getfield 25, 3) := by decide +kernel
theorem zd166_4 : decode zxm166.2.1 4 = .ok (.iload_n 1, 1) := by decide +kernel
theorem zd166_5 : decode zxm166.2.1 5 = .ok (.invokevirtual 323, 3) := by decide +kernel
theorem zd166_8 : decode zxm166.2.1 8 = .ok (.ifCond .eq 25, 3) := by decide +kernel
theorem zd166_11 : decode zxm166.2.1 11 = .ok (.iload_n 2, 1) := by decide +kernel
theorem zd166_12 : decode zxm166.2.1 12 = .ok (.iload_n 3, 1) := by decide +kernel
theorem zd166_13 : decode zxm166.2.1 13 = .ok (.invokestatic 130, 3) := by decide +kernel
theorem zd166_16 : decode zxm166.2.1 16 = .ok (.ifCond .eq 17, 3) := by decide +kernel
theorem zd166_19 : decode zxm166.2.1 19 = .ok (.aload_n 0, 1) := by decide +kernel
theorem zd166_20 : decode zxm166.2.1 20 = .ok (.getfield 10, 3) := by decide +kernel
theorem zd166_23 : decode zxm166.2.1 23 = .ok (.getfield 134, 3) := by decide +kernel
theorem zd166_26 : decode zxm166.2.1 26 = .ok (.ifCond .eq 7, 3) := by decide +kernel
theorem zd166_29 : decode zxm166.2.1 29 = .ok (.iconst 1, 1) := by decide +kernel
theorem zd166_30 : decode zxm166.2.1 30 = .ok (.goto 4, 3) := by decide +kernel
theorem zd166_33 : decode zxm166.2.1 33 = .ok (.iconst 0, 1) := by decide +kernel
theorem zd166_34 : decode zxm166.2.1 34 = .ok (.ireturn, 1) := by decide +kernel
theorem zt_X_canAskVoyage {x1 : Int} {x2 : Int} {x3 : Int} {f0 : Int} {f1 : Int} {o : Int} (h : zf_X_canAskVoyage x1 x2 x3 f0 f1 = some o) : zv_Fn z_TB z_cl z_KX zy_X_canAskVoyage zxm166 (1, 60) [.inr 0, .inl x1, .inl x2, .inl x3] [.inl f0, .inl f1] [] (some o) [.inl f0, .inl f1] [] := zv_meth (K := (z_KF0, z_KC0, z_KL0, z_KT0, [], [], [], none)) (FT := z_FT) (MT := z_MT) (n := 4) zxp166 (z_ks0 _ (fun _ h => List.mem_cons_of_mem _ h) _ _ _ _ (fun j r h _ => by cases h)) (fun _ _ => zs_KX_p) zyw_X_canAskVoyage (fun va F G h => by obtain ⟨rfl, _⟩ := h; rfl) (fun va F G h => by obtain ⟨rfl, _⟩ := h; rfl) rfl fun good va F G hB hret hvret hP => by
  obtain ⟨rfl, rfl, rfl⟩ := hP
  unfold zf_X_canAskVoyage at h
  refine zv_ald hB zd166_0 rfl rfl rfl ?_
  refine zv_getr hB zd166_1 rfl ?_
  refine zv_ild hB zd166_4 rfl rfl ?_
  obtain ⟨r1, hr1, h⟩ := zi_bind h
  refine zv_cv hB (zv_emq (va2 := [.inr 1, .inl x1]) (F := [.inl f0, .inl f1]) (F' := [.inl f0, .inl f1]) (G := []) (G' := []) (ρ := [1]) (φ := [0]) (ψ := []) [some 0, none] [] zyw_Sea_hasShip zyw_X_canAskVoyage zye_X_canAskVoyage (by decide +kernel) (zt_Sea_hasShip hr1) ⟨⟨_, rfl, fun _ => rfl⟩, trivial⟩ trivial rfl rfl rfl rfl rfl rfl rfl) zd166_5 zxt26 rfl (by decide) (by decide) rfl ?_
  refine zv_zeq hB zd166_8 rfl (fun hc2 => ?_) (fun hc2 => ?_)
  · rw [if_pos hc2] at h
    refine zv_con hB zd166_33 rfl ?_
    have hw := Option.some.inj h
    subst hw
    exact hret _ _ _ _ _ zd166_34 (by constructor <;> decide) ⟨rfl, rfl, rfl⟩
  · rw [if_neg hc2] at h
    refine zv_ild hB zd166_11 rfl rfl ?_
    refine zv_ild hB zd166_12 rfl rfl ?_
    obtain ⟨r3, hr3, h⟩ := zi_bind h
    refine zv_cs hB (zv_emq (va2 := [.inl x2, .inl x3]) (F := [.inl f0, .inl f1]) (F' := [.inl f0, .inl f1]) (G := []) (G' := []) (ρ := []) (φ := []) (ψ := []) [none, none] [] zyw_X_isPlace zyw_X_canAskVoyage zye_X_canAskVoyage (by decide +kernel) (zt_X_isPlace hr3) trivial trivial rfl rfl rfl rfl rfl rfl rfl) zd166_13 zxt16 rfl (by decide) (by decide) rfl ?_
    refine zv_zeq hB zd166_16 rfl (fun hc4 => ?_) (fun hc4 => ?_)
    · rw [if_pos hc4] at h
      refine zv_con hB zd166_33 rfl ?_
      have hw := Option.some.inj h
      subst hw
      exact hret _ _ _ _ _ zd166_34 (by constructor <;> decide) ⟨rfl, rfl, rfl⟩
    · rw [if_neg hc4] at h
      refine zv_ald hB zd166_19 rfl rfl rfl ?_
      refine zv_getr hB zd166_20 rfl ?_
      refine zv_getf hB zd166_23 rfl rfl (fun _ _ => ?_)
      refine zv_zeq hB zd166_26 rfl (fun hc5 => ?_) (fun hc5 => ?_)
      · rw [if_pos hc5] at h
        refine zv_con hB zd166_33 rfl ?_
        have hw := Option.some.inj h
        subst hw
        exact hret _ _ _ _ _ zd166_34 (by constructor <;> decide) ⟨rfl, rfl, rfl⟩
      · rw [if_neg hc5] at h
        refine zv_con hB zd166_29 rfl ?_
        refine zv_goto hB zd166_30 rfl ?_
        have hw := Option.some.inj h
        subst hw
        exact hret _ _ _ _ _ zd166_34 (by constructor <;> decide) ⟨rfl, rfl, rfl⟩
/-! Pilot_stepFirstLegs (LStarTales$View;LStarTales$Sea;)V -/
-- names: 0 Pilot('arg', 0), 1 View('arg', 1), 2 Sea('arg', 2), 3 Sky(1, 7, 0), 4 (0, 24)(0, 9, 4), 5 Law(1, 7, 1), 6 (0, 13)(5, 4, 12), 7 (0, 24)(3, 1, 1), 8 (0, 24)(3, 1, 2), 9 (0, 24)(3, 1, 3), 10 (0, 14)(5, 4, 3), 11 (0, 14)(5, 4, 5), 12 (0, 14)(5, 4, 6), 13 (0, 200)(5, 4, 0), 14 (0, 40)(5, 4, 13), 15 (0, 200)(5, 4, 1), 16 (0, 12)(2, 2, 0)
-- fields: f0 = 1.sky_, f1 = 3.told_, f2 = 1.law_, f3 = 1.x_, f4 = 1.y_, f5 = 3.hour_, f6 = 3.night_, f7 = 3.sightColumns_, f8 = 3.sightRows_, f9 = 3.clouds_, f10 = 5.tellsSeen_, f11 = 1.starsAsked_, f12 = 1.starsHold_, f13 = 5.clauses_, f14 = 5.answer_, f15 = 5.seenByPlace_; arrays: g0 = 4, g1 = 6, g2 = 7, g3 = 8, g4 = 9, g5 = 10, g6 = 11, g7 = 12, g8 = 13, g9 = 14, g10 = 15, g11 = 16; out: [('f', 3), ('f', 4), ('f', 11), ('f', 12), ('f', 14), ('g', 0), ('g', 1), ('g', 9)]
abbrev zy_Pilot_stepFirstLegs : zNL := (17, [(0, 9), (1, 7), (2, 2), (3, 1), (5, 4)], [(1, 7, 0, 0), (3, 1, 0, 1), (1, 7, 1, 2), (1, 7, 2, 3), (1, 7, 3, 4), (3, 1, 6, 5), (3, 1, 7, 6), (3, 1, 9, 7), (3, 1, 10, 8), (3, 1, 8, 9), (5, 4, 8, 10), (1, 7, 6, 11), (1, 7, 7, 12), (5, 4, 7, 13), (5, 4, 14, 14), (5, 4, 10, 15)], [(0, 9, 4, 4), (5, 4, 12, 6), (3, 1, 1, 7), (3, 1, 2, 8), (3, 1, 3, 9), (5, 4, 3, 10), (5, 4, 5, 11), (5, 4, 6, 12), (5, 4, 0, 13), (5, 4, 13, 14), (5, 4, 1, 15), (2, 2, 0, 16)], [(4, 0, 24, 0), (6, 0, 13, 1), (7, 0, 24, 2), (8, 0, 24, 3), (9, 0, 24, 4), (10, 0, 14, 5), (11, 0, 14, 6), (12, 0, 14, 7), (13, 0, 200, 8), (14, 0, 40, 9), (15, 0, 200, 10), (16, 0, 12, 11)])
theorem zyw_Pilot_stepFirstLegs : zv_wf zy_Pilot_stepFirstLegs = true := by decide +kernel
theorem zye_Pilot_stepFirstLegs : zv_ek2 zy_Pilot_stepFirstLegs = true := by decide +kernel
def zf_Pilot_stepFirstLegs_l0_b (f1 : Int) (f5 : Int) (f6 : Int) (f7 : Int) (f8 : Int) (f9 : Int) (f10 : Int) (f13 : Int) (f15 : Int) (g2 : (Int → Int)) (g3 : (Int → Int)) (g4 : (Int → Int)) (g5 : (Int → Int)) (g6 : (Int → Int)) (g7 : (Int → Int)) (g8 : (Int → Int)) (g10 : (Int → Int)) (g11 : (Int → Int)) (rec : Int → Int → Int → Int → Int → Int → (Int → Int) → (Int → Int) → (Int → Int) → Option (Int × Int × Int × Int × Int × (Int → Int) × (Int → Int) × (Int → Int))) (x3 : Int) (f3 : Int) (f4 : Int) (f11 : Int) (f12 : Int) (f14 : Int) (g0 : (Int → Int)) (g1 : (Int → Int)) (g9 : (Int → Int)) : Option (Int × Int × Int × Int × Int × (Int → Int) × (Int → Int) × (Int → Int)) := if x3 < 24 then ((zf_Sky_hasStar x3 f1).bind fun r2 => (if r2 = 0 then (rec (zi_w (x3 + 1)) f3 f4 f11 f12 f14 g0 g1 g9) else (cond (zi_ix x3 24) ((zf_Pilot_step (g0 x3) x3 f3 f4 f5 f6 f1 f7 f8 f9 f10 f11 f12 f13 f14 f15 g1 g2 g3 g4 g5 g6 g7 g8 g9 g10 g11).bind fun r5 => (rec (zi_w (x3 + 1)) r5.2.1 r5.2.2.1 r5.2.2.2.1 r5.2.2.2.2.1 r5.2.2.2.2.2.1 (zv_up g0 x3 r5.1) r5.2.2.2.2.2.2.1 r5.2.2.2.2.2.2.2)) none))) else (some (f3, f4, f11, f12, f14, g0, g1, g9))
def zf_Pilot_stepFirstLegs_l0 (f1 : Int) (f5 : Int) (f6 : Int) (f7 : Int) (f8 : Int) (f9 : Int) (f10 : Int) (f13 : Int) (f15 : Int) (g2 : (Int → Int)) (g3 : (Int → Int)) (g4 : (Int → Int)) (g5 : (Int → Int)) (g6 : (Int → Int)) (g7 : (Int → Int)) (g8 : (Int → Int)) (g10 : (Int → Int)) (g11 : (Int → Int)) : Nat → Int → Int → Int → Int → Int → Int → (Int → Int) → (Int → Int) → (Int → Int) → Option (Int × Int × Int × Int × Int × (Int → Int) × (Int → Int) × (Int → Int))
  | 0, _, _, _, _, _, _, _, _, _ => none
  | n + 1, x3, f3, f4, f11, f12, f14, g0, g1, g9 => zf_Pilot_stepFirstLegs_l0_b f1 f5 f6 f7 f8 f9 f10 f13 f15 g2 g3 g4 g5 g6 g7 g8 g10 g11 (zf_Pilot_stepFirstLegs_l0 f1 f5 f6 f7 f8 f9 f10 f13 f15 g2 g3 g4 g5 g6 g7 g8 g10 g11 n) x3 f3 f4 f11 f12 f14 g0 g1 g9
def zf_Pilot_stepFirstLegs (f1 : Int) (f3 : Int) (f4 : Int) (f5 : Int) (f6 : Int) (f7 : Int) (f8 : Int) (f9 : Int) (f10 : Int) (f11 : Int) (f12 : Int) (f13 : Int) (f14 : Int) (f15 : Int) (g0 : (Int → Int)) (g1 : (Int → Int)) (g2 : (Int → Int)) (g3 : (Int → Int)) (g4 : (Int → Int)) (g5 : (Int → Int)) (g6 : (Int → Int)) (g7 : (Int → Int)) (g8 : (Int → Int)) (g9 : (Int → Int)) (g10 : (Int → Int)) (g11 : (Int → Int)) : Option (Int × Int × Int × Int × Int × (Int → Int) × (Int → Int) × (Int → Int)) := (zf_Pilot_stepFirstLegs_l0 f1 f5 f6 f7 f8 f9 f10 f13 f15 g2 g3 g4 g5 g6 g7 g8 g10 g11 zi_fu 0 f3 f4 f11 f12 f14 g0 g1 g9).bind fun q6 => (some (q6.1, q6.2.1, q6.2.2.1, q6.2.2.2.1, q6.2.2.2.2.1, q6.2.2.2.2.2.1, q6.2.2.2.2.2.2.1, q6.2.2.2.2.2.2.2))
theorem zd168_0 : decode zxm168.2.1 0 = .ok (.iconst 0, 1) := by decide +kernel
theorem zd168_1 : decode zxm168.2.1 1 = .ok (.istore_n 3, 1) := by decide +kernel
theorem zd168_2 : decode zxm168.2.1 2 = .ok (.iload_n 3, 1) := by decide +kernel
theorem zd168_3 : decode zxm168.2.1 3 = .ok (.bipush 24, 2) := by decide +kernel
theorem zd168_5 : decode zxm168.2.1 5 = .ok (.if_icmp .ge 39, 3) := by decide +kernel
theorem zd168_8 : decode zxm168.2.1 8 = .ok (.aload_n 1, 1) := by decide +kernel
theorem zd168_9 : decode zxm168.2.1 9 = .ok (.getfield 75, 3) := by decide +kernel
theorem zd168_12 : decode zxm168.2.1 12 = .ok (.iload_n 3, 1) := by decide +kernel
theorem zd168_13 : decode zxm168.2.1 13 = .ok (.invokevirtual 120, 3) := by decide +kernel
theorem zd168_16 : decode zxm168.2.1 16 = .ok (.ifCond .eq 22, 3) := by decide +kernel
theorem zd168_19 : decode zxm168.2.1 19 = .ok (.aload_n 0, 1) := by decide +kernel
theorem zd168_20 : decode zxm168.2.1 20 = .ok (.getfield 24, 3) := by decide +kernel
theorem zd168_23 : decode zxm168.2.1 23 = .ok (.iload_n 3, 1) := by decide +kernel
theorem zd168_24 : decode zxm168.2.1 24 = .ok (.aload_n 0, 1) := by decide +kernel
theorem zd168_25 : decode zxm168.2.1 25 = .ok (.aload_n 1, 1) := by decide +kernel
theorem zd168_26 : decode zxm168.2.1 26 = .ok (.aload_n 2, 1) := by decide +kernel
theorem zd168_27 : decode zxm168.2.1 27 = .ok (.aload_n 0, 1) := by decide +kernel
theorem zd168_28 : decode zxm168.2.1 28 = .ok (.getfield 24, 3) := by decide +kernel
theorem zd168_31 : decode zxm168.2.1 31 = .ok (.iload_n 3, 1) := by decide +kernel
theorem zd168_32 : decode zxm168.2.1 32 = .ok (.iaload, 1) := by decide +kernel
theorem zd168_33 : decode zxm168.2.1 33 = .ok (.iload_n 3, 1) := by decide +kernel
theorem zd168_34 : decode zxm168.2.1 34 = .ok (.invokevirtual 150, 3) := by decide +kernel
theorem zd168_37 : decode zxm168.2.1 37 = .ok (.iastore, 1) := by decide +kernel
theorem zd168_38 : decode zxm168.2.1 38 = .ok (.iinc 3 1, 3) := by decide +kernel
theorem zd168_41 : decode zxm168.2.1 41 = .ok (.goto (-39), 3) := by decide +kernel
theorem zd168_44 : decode zxm168.2.1 44 = .ok (.return_, 1) := by decide +kernel
theorem zt_Pilot_stepFirstLegs {f1 : Int} {f3 : Int} {f4 : Int} {f5 : Int} {f6 : Int} {f7 : Int} {f8 : Int} {f9 : Int} {f10 : Int} {f11 : Int} {f12 : Int} {f13 : Int} {f14 : Int} {f15 : Int} {g0 : (Int → Int)} {g1 : (Int → Int)} {g2 : (Int → Int)} {g3 : (Int → Int)} {g4 : (Int → Int)} {g5 : (Int → Int)} {g6 : (Int → Int)} {g7 : (Int → Int)} {g8 : (Int → Int)} {g9 : (Int → Int)} {g10 : (Int → Int)} {g11 : (Int → Int)} {o : Int × Int × Int × Int × Int × (Int → Int) × (Int → Int) × (Int → Int)} (h : zf_Pilot_stepFirstLegs f1 f3 f4 f5 f6 f7 f8 f9 f10 f11 f12 f13 f14 f15 g0 g1 g2 g3 g4 g5 g6 g7 g8 g9 g10 g11 = some o) : zv_Fn z_TB z_cl z_KX zy_Pilot_stepFirstLegs zxm168 (5, 300) [.inr 0, .inr 1, .inr 2] [.inr 3, .inl f1, .inr 5, .inl f3, .inl f4, .inl f5, .inl f6, .inl f7, .inl f8, .inl f9, .inl f10, .inl f11, .inl f12, .inl f13, .inl f14, .inl f15] [g0, g1, g2, g3, g4, g5, g6, g7, g8, g9, g10, g11] none [.inr 3, .inl f1, .inr 5, .inl o.1, .inl o.2.1, .inl f5, .inl f6, .inl f7, .inl f8, .inl f9, .inl f10, .inl o.2.2.1, .inl o.2.2.2.1, .inl f13, .inl o.2.2.2.2.1, .inl f15] [o.2.2.2.2.2.1, o.2.2.2.2.2.2.1, g2, g3, g4, g5, g6, g7, g8, o.2.2.2.2.2.2.2, g10, g11] := zv_meth (K := (z_KF6, z_KC6, z_KL6, z_KT6, [], [], [], none)) (FT := z_FT) (MT := z_MT) (n := 3) zxp168 (z_ks6 _ (fun _ h => List.mem_cons_of_mem _ h) _ _ _ _ (fun j r h _ => by cases h)) (fun _ _ => zs_KX_p) zyw_Pilot_stepFirstLegs (fun va F G h => by obtain ⟨rfl, _⟩ := h; rfl) (fun va F G h => by obtain ⟨rfl, _⟩ := h; rfl) rfl fun good va F G hB hret hvret hP => by
  obtain ⟨rfl, rfl, rfl⟩ := hP
  have l0 : ∀ (n : Nat) (x3 : Int) (f3 : Int) (f4 : Int) (f11 : Int) (f12 : Int) (f14 : Int) (g0 : (Int → Int)) (g1 : (Int → Int)) (g9 : (Int → Int)) (q : Int × Int × Int × Int × Int × (Int → Int) × (Int → Int) × (Int → Int)), zf_Pilot_stepFirstLegs_l0 f1 f5 f6 f7 f8 f9 f10 f13 f15 g2 g3 g4 g5 g6 g7 g8 g10 g11 n x3 f3 f4 f11 f12 f14 g0 g1 g9 = some q → (good 44 [.inr 1000, .inr 1000, .inr 1000, .inr 1000] [] [.inr 3, .inl f1, .inr 5, .inl q.1, .inl q.2.1, .inl f5, .inl f6, .inl f7, .inl f8, .inl f9, .inl f10, .inl q.2.2.1, .inl q.2.2.2.1, .inl f13, .inl q.2.2.2.2.1, .inl f15] [q.2.2.2.2.2.1, q.2.2.2.2.2.2.1, g2, g3, g4, g5, g6, g7, g8, q.2.2.2.2.2.2.2, g10, g11]) → good 2 [.inr 0, .inr 1, .inr 2, .inl x3] [] [.inr 3, .inl f1, .inr 5, .inl f3, .inl f4, .inl f5, .inl f6, .inl f7, .inl f8, .inl f9, .inl f10, .inl f11, .inl f12, .inl f13, .inl f14, .inl f15] [g0, g1, g2, g3, g4, g5, g6, g7, g8, g9, g10, g11] := by
    intro n
    induction n with
    | zero => intro x3 f3 f4 f11 f12 f14 g0 g1 g9 q h; exact absurd (show none = some q from h) (fun h => by cases h)
    | succ n ih =>
      intro x3 f3 f4 f11 f12 f14 g0 g1 g9 q h hK
      replace h : zf_Pilot_stepFirstLegs_l0_b f1 f5 f6 f7 f8 f9 f10 f13 f15 g2 g3 g4 g5 g6 g7 g8 g10 g11 (zf_Pilot_stepFirstLegs_l0 f1 f5 f6 f7 f8 f9 f10 f13 f15 g2 g3 g4 g5 g6 g7 g8 g10 g11 n) x3 f3 f4 f11 f12 f14 g0 g1 g9 = some q := h
      unfold zf_Pilot_stepFirstLegs_l0_b at h
      refine zv_ild hB zd168_2 rfl rfl ?_
      refine zv_con hB zd168_3 rfl ?_
      refine zv_cge hB zd168_5 rfl (fun hc1 => ?_) (fun hc1 => ?_)
      · rw [if_neg (Int.not_lt.mpr hc1)] at h
        have hq := Option.some.inj h
        subst hq
        refine zv_wk hB (L' := [.inr 1000, .inr 1000, .inr 1000, .inr 1000]) (F' := [.inr 3, .inl f1, .inr 5, .inl f3, .inl f4, .inl f5, .inl f6, .inl f7, .inl f8, .inl f9, .inl f10, .inl f11, .inl f12, .inl f13, .inl f14, .inl f15]) ⟨fun (h : zv_is (.inr 1000)) => (Nat.lt_irrefl 1000 h).elim, fun (h : zv_is (.inr 1000)) => (Nat.lt_irrefl 1000 h).elim, fun (h : zv_is (.inr 1000)) => (Nat.lt_irrefl 1000 h).elim, fun (h : zv_is (.inr 1000)) => (Nat.lt_irrefl 1000 h).elim, trivial⟩ ⟨fun _ => rfl, fun _ => rfl, fun _ => rfl, fun _ => rfl, fun _ => rfl, fun _ => rfl, fun _ => rfl, fun _ => rfl, fun _ => rfl, fun _ => rfl, fun _ => rfl, fun _ => rfl, fun _ => rfl, fun _ => rfl, fun _ => rfl, fun _ => rfl, trivial⟩ ?_
        exact hK
      · rw [if_pos hc1] at h
        refine zv_ald hB zd168_8 rfl rfl rfl ?_
        refine zv_getq hB zd168_9 rfl rfl rfl ?_
        refine zv_ild hB zd168_12 rfl rfl ?_
        obtain ⟨r2, hr2, h⟩ := zi_bind h
        refine zv_cv hB (zv_emq (va2 := [.inr 3, .inl x3]) (F := [.inr 3, .inl f1, .inr 5, .inl f3, .inl f4, .inl f5, .inl f6, .inl f7, .inl f8, .inl f9, .inl f10, .inl f11, .inl f12, .inl f13, .inl f14, .inl f15]) (F' := [.inr 3, .inl f1, .inr 5, .inl f3, .inl f4, .inl f5, .inl f6, .inl f7, .inl f8, .inl f9, .inl f10, .inl f11, .inl f12, .inl f13, .inl f14, .inl f15]) (G := [g0, g1, g2, g3, g4, g5, g6, g7, g8, g9, g10, g11]) (G' := [g0, g1, g2, g3, g4, g5, g6, g7, g8, g9, g10, g11]) (ρ := [3]) (φ := [1]) (ψ := []) [none, some 0, none, none, none, none, none, none, none, none, none, none, none, none, none, none] [none, none, none, none, none, none, none, none, none, none, none, none] zyw_Sky_hasStar zyw_Pilot_stepFirstLegs zye_Pilot_stepFirstLegs (by decide +kernel) (zt_Sky_hasStar hr2) ⟨⟨_, rfl, fun _ => rfl⟩, trivial⟩ trivial rfl rfl rfl rfl rfl rfl rfl) zd168_13 zxt18 rfl (by decide) (by decide) rfl ?_
        refine zv_zeq hB zd168_16 rfl (fun hc3 => ?_) (fun hc3 => ?_)
        · rw [if_pos hc3] at h
          refine zv_iincw hB zd168_38 rfl rfl ?_
          refine zv_goto hB zd168_41 rfl ?_
          exact ih _ _ _ _ _ _ _ _ _ q h hK
        · rw [if_neg hc3] at h
          refine zv_ald hB zd168_19 rfl rfl rfl ?_
          refine zv_getr hB zd168_20 rfl ?_
          refine zv_ild hB zd168_23 rfl rfl ?_
          refine zv_ald hB zd168_24 rfl rfl rfl ?_
          refine zv_ald hB zd168_25 rfl rfl rfl ?_
          refine zv_ald hB zd168_26 rfl rfl rfl ?_
          refine zv_ald hB zd168_27 rfl rfl rfl ?_
          refine zv_getr hB zd168_28 rfl ?_
          refine zv_ild hB zd168_31 rfl rfl ?_
          obtain ⟨c4, h⟩ := zi_if h
          refine zv_iald hB zd168_32 rfl rfl (zi_ix_ok c4).1 (zi_ix_ok c4).2 (fun _ _ => ?_)
          refine zv_ild hB zd168_33 rfl rfl ?_
          obtain ⟨r5, hr5, h⟩ := zi_bind h
          refine zv_cv hB (zv_emq (va2 := [.inr 0, .inr 1, .inr 2, .inl (g0 x3), .inl x3]) (F := [.inr 3, .inl f1, .inr 5, .inl f3, .inl f4, .inl f5, .inl f6, .inl f7, .inl f8, .inl f9, .inl f10, .inl f11, .inl f12, .inl f13, .inl f14, .inl f15]) (F' := [.inr 3, .inl f1, .inr 5, .inl r5.2.1, .inl r5.2.2.1, .inl f5, .inl f6, .inl f7, .inl f8, .inl f9, .inl f10, .inl r5.2.2.2.1, .inl r5.2.2.2.2.1, .inl f13, .inl r5.2.2.2.2.2.1, .inl f15]) (G := [g0, g1, g2, g3, g4, g5, g6, g7, g8, g9, g10, g11]) (G' := [g0, r5.2.2.2.2.2.2.1, g2, g3, g4, g5, g6, g7, g8, r5.2.2.2.2.2.2.2, g10, g11]) (ρ := [0, 1, 2, 5, 6, 3, 7, 8, 9, 10, 11, 12, 13, 14, 15, 16]) (φ := [2, 0, 3, 4, 5, 6, 1, 7, 8, 9, 10, 11, 12, 13, 14, 15]) (ψ := [1, 2, 3, 4, 5, 6, 7, 8, 9, 10, 11]) [some 1, some 6, some 0, some 2, some 3, some 4, some 5, some 7, some 8, some 9, some 10, some 11, some 12, some 13, some 14, some 15] [none, some 0, some 1, some 2, some 3, some 4, some 5, some 6, some 7, some 8, some 9, some 10] zyw_Pilot_step zyw_Pilot_stepFirstLegs zye_Pilot_stepFirstLegs (by decide +kernel) (zt_Pilot_step hr5) ⟨⟨_, rfl, fun _ => rfl⟩, ⟨_, rfl, fun _ => rfl⟩, ⟨_, rfl, fun _ => rfl⟩, ⟨_, rfl, fun _ => rfl⟩, ⟨_, rfl, fun _ => rfl⟩, ⟨_, rfl, fun _ => rfl⟩, ⟨_, rfl, fun _ => rfl⟩, ⟨_, rfl, fun _ => rfl⟩, ⟨_, rfl, fun _ => rfl⟩, ⟨_, rfl, fun _ => rfl⟩, ⟨_, rfl, fun _ => rfl⟩, ⟨_, rfl, fun _ => rfl⟩, ⟨_, rfl, fun _ => rfl⟩, ⟨_, rfl, fun _ => rfl⟩, ⟨_, rfl, fun _ => rfl⟩, ⟨_, rfl, fun _ => rfl⟩, trivial⟩ ⟨rfl, rfl, rfl, rfl, rfl, rfl, rfl, rfl, rfl, rfl, rfl, trivial⟩ rfl rfl rfl rfl rfl rfl rfl) zd168_34 zxt153 rfl (by decide) (by decide) rfl ?_
          refine zv_iast hB zd168_37 rfl rfl (zi_ix_ok c4).1 (zi_ix_ok c4).2 ?_
          refine zv_iincw hB zd168_38 rfl rfl ?_
          refine zv_goto hB zd168_41 rfl ?_
          exact ih _ _ _ _ _ _ _ _ _ q h hK
  unfold zf_Pilot_stepFirstLegs at h
  refine zv_con hB zd168_0 rfl ?_
  refine zv_ist hB zd168_1 rfl rfl rfl ?_
  obtain ⟨q6, hq6, h⟩ := zi_bind h
  refine l0 _ _ _ _ _ _ _ _ _ _ q6 hq6 ?_
  show good 44 [.inr 1000, .inr 1000, .inr 1000, .inr 1000] [] [.inr 3, .inl f1, .inr 5, .inl q6.1, .inl q6.2.1, .inl f5, .inl f6, .inl f7, .inl f8, .inl f9, .inl f10, .inl q6.2.2.1, .inl q6.2.2.2.1, .inl f13, .inl q6.2.2.2.2.1, .inl f15] [q6.2.2.2.2.2.1, q6.2.2.2.2.2.2.1, g2, g3, g4, g5, g6, g7, g8, q6.2.2.2.2.2.2.2, g10, g11]
  have hw := Option.some.inj h
  subst hw
  exact hvret _ _ _ _ zd168_44 trivial ⟨rfl, rfl, rfl⟩
/-! Pilot_turnOnward (LStarTales$View;)V -/
-- names: 0 Pilot('arg', 0), 1 View('arg', 1), 2 Sky(1, 7, 0), 3 (0, 24)(2, 1, 1), 4 (0, 24)(2, 1, 4), 5 (0, 24)(2, 1, 2), 6 (0, 24)(2, 1, 5), 7 Law(1, 7, 1), 8 (0, 24)(1, 7, 8)
-- fields: f0 = 1.sky_, f1 = 2.hour_, f2 = 2.night_, f3 = 1.law_, f4 = 1.starsAsked_; arrays: g0 = 3, g1 = 4, g2 = 5, g3 = 6, g4 = 8; out: [('f', 1), ('f', 2), ('f', 4), ('g', 0), ('g', 2), ('g', 4)]
abbrev zy_Pilot_turnOnward : zNL := (9, [(0, 9), (1, 7), (2, 1), (7, 4)], [(1, 7, 0, 0), (2, 1, 6, 1), (2, 1, 7, 2), (1, 7, 1, 3), (1, 7, 6, 4)], [(2, 1, 1, 3), (2, 1, 4, 4), (2, 1, 2, 5), (2, 1, 5, 6), (1, 7, 8, 8)], [(3, 0, 24, 0), (4, 0, 24, 1), (5, 0, 24, 2), (6, 0, 24, 3), (8, 0, 24, 4)])
theorem zyw_Pilot_turnOnward : zv_wf zy_Pilot_turnOnward = true := by decide +kernel
theorem zye_Pilot_turnOnward : zv_ek2 zy_Pilot_turnOnward = true := by decide +kernel
def zf_Pilot_turnOnward (f1 : Int) (f2 : Int) (f4 : Int) (g0 : (Int → Int)) (g1 : (Int → Int)) (g2 : (Int → Int)) (g3 : (Int → Int)) (g4 : (Int → Int)) : Option (Int × Int × Int × (Int → Int) × (Int → Int) × (Int → Int)) := (zf_Sky_passHour f1 f2 g0 g1 g2 g3).bind fun r1 => ((zf_View_open f4 g4).bind fun r2 => (some (r1.1, r1.2.1, r2.1, r1.2.2.1, r1.2.2.2, r2.2)))
theorem zd169_0 : decode zxm169.2.1 0 = .ok (.aload_n 1, 1) := by decide +kernel
theorem zd169_1 : decode zxm169.2.1 1 = .ok (.getfield 75, 3) := by decide +kernel
theorem zd169_4 : decode zxm169.2.1 4 = .ok (.invokevirtual 147, 3) := by decide +kernel
theorem zd169_7 : decode zxm169.2.1 7 = .ok (.aload_n 1, 1) := by decide +kernel
theorem zd169_8 : decode zxm169.2.1 8 = .ok (.aload_n 1, 1) := by decide +kernel
theorem zd169_9 : decode zxm169.2.1 9 = .ok (.getfield 75, 3) := by decide +kernel
theorem zd169_12 : decode zxm169.2.1 12 = .ok (.aload_n 1, 1) := by decide +kernel
theorem zd169_13 : decode zxm169.2.1 13 = .ok (.getfield 135, 3) := by decide +kernel
theorem zd169_16 : decode zxm169.2.1 16 = .ok (.invokevirtual 139, 3) := by decide +kernel
theorem zd169_19 : decode zxm169.2.1 19 = .ok (.return_, 1) := by decide +kernel
theorem zt_Pilot_turnOnward {f1 : Int} {f2 : Int} {f4 : Int} {g0 : (Int → Int)} {g1 : (Int → Int)} {g2 : (Int → Int)} {g3 : (Int → Int)} {g4 : (Int → Int)} {o : Int × Int × Int × (Int → Int) × (Int → Int) × (Int → Int)} (h : zf_Pilot_turnOnward f1 f2 f4 g0 g1 g2 g3 g4 = some o) : zv_Fn z_TB z_cl z_KX zy_Pilot_turnOnward zxm169 (4, 240) [.inr 0, .inr 1] [.inr 2, .inl f1, .inl f2, .inr 7, .inl f4] [g0, g1, g2, g3, g4] none [.inr 2, .inl o.1, .inl o.2.1, .inr 7, .inl o.2.2.1] [o.2.2.2.1, g1, o.2.2.2.2.1, g3, o.2.2.2.2.2] := zv_meth (K := (z_KF6, z_KC6, z_KL6, z_KT6, [], [], [], none)) (FT := z_FT) (MT := z_MT) (n := 2) zxp169 (z_ks6 _ (fun _ h => List.mem_cons_of_mem _ h) _ _ _ _ (fun j r h _ => by cases h)) (fun _ _ => zs_KX_p) zyw_Pilot_turnOnward (fun va F G h => by obtain ⟨rfl, _⟩ := h; rfl) (fun va F G h => by obtain ⟨rfl, _⟩ := h; rfl) rfl fun good va F G hB hret hvret hP => by
  obtain ⟨rfl, rfl, rfl⟩ := hP
  unfold zf_Pilot_turnOnward at h
  refine zv_ald hB zd169_0 rfl rfl rfl ?_
  refine zv_getq hB zd169_1 rfl rfl rfl ?_
  obtain ⟨r1, hr1, h⟩ := zi_bind h
  refine zv_cv hB (zv_emq (va2 := [.inr 2]) (F := [.inr 2, .inl f1, .inl f2, .inr 7, .inl f4]) (F' := [.inr 2, .inl r1.1, .inl r1.2.1, .inr 7, .inl f4]) (G := [g0, g1, g2, g3, g4]) (G' := [r1.2.2.1, g1, r1.2.2.2, g3, g4]) (ρ := [2, 3, 4, 5, 6]) (φ := [1, 2]) (ψ := [0, 1, 2, 3]) [none, some 0, some 1, none, none] [some 0, some 1, some 2, some 3, none] zyw_Sky_passHour zyw_Pilot_turnOnward zye_Pilot_turnOnward (by decide +kernel) (zt_Sky_passHour hr1) ⟨⟨_, rfl, fun _ => rfl⟩, ⟨_, rfl, fun _ => rfl⟩, trivial⟩ ⟨rfl, rfl, rfl, rfl, trivial⟩ rfl rfl rfl rfl rfl rfl rfl) zd169_4 zxt155 rfl (by decide) (by decide) rfl ?_
  refine zv_ald hB zd169_7 rfl rfl rfl ?_
  refine zv_ald hB zd169_8 rfl rfl rfl ?_
  refine zv_getq hB zd169_9 rfl rfl rfl ?_
  refine zv_ald hB zd169_12 rfl rfl rfl ?_
  refine zv_getq hB zd169_13 rfl rfl rfl ?_
  obtain ⟨r2, hr2, h⟩ := zi_bind h
  refine zv_cv hB (zv_emq (va2 := [.inr 1, .inr 2, .inr 7]) (F := [.inr 2, .inl r1.1, .inl r1.2.1, .inr 7, .inl f4]) (F' := [.inr 2, .inl r1.1, .inl r1.2.1, .inr 7, .inl r2.1]) (G := [r1.2.2.1, g1, r1.2.2.2, g3, g4]) (G' := [r1.2.2.1, g1, r1.2.2.2, g3, r2.2]) (ρ := [1, 2, 7, 8]) (φ := [0, 3, 4]) (ψ := [4]) [some 0, none, none, some 1, some 2] [none, none, none, none, some 0] zyw_View_open zyw_Pilot_turnOnward zye_Pilot_turnOnward (by decide +kernel) (zt_View_open hr2) ⟨⟨_, rfl, fun (h : zv_is (.inr 1000)) => (Nat.lt_irrefl 1000 h).elim⟩, ⟨_, rfl, fun (h : zv_is (.inr 1000)) => (Nat.lt_irrefl 1000 h).elim⟩, ⟨_, rfl, fun _ => rfl⟩, trivial⟩ ⟨rfl, trivial⟩ rfl rfl rfl rfl rfl rfl rfl) zd169_16 zxt84 rfl (by decide) (by decide) rfl ?_
  have hw := Option.some.inj h
  subst hw
  exact hvret _ _ _ _ zd169_19 trivial ⟨rfl, rfl, rfl⟩
end
section
/-! Methods as functions, and that they do what these do. -/
/-! Pilot_findFastest (LStarTales$View;LStarTales$Sea;III)Z -/
-- names: 0 Pilot('arg', 0), 1 View('arg', 1), 2 Sea('arg', 2), 3 Sky(1, 7, 0), 4 (0, 24)(0, 9, 4), 5 Law(1, 7, 1), 6 (0, 13)(5, 4, 12), 7 (0, 24)(3, 1, 1), 8 (0, 24)(3, 1, 2), 9 (0, 24)(3, 1, 3), 10 (0, 14)(5, 4, 3), 11 (0, 14)(5, 4, 5), 12 (0, 14)(5, 4, 6), 13 (0, 200)(5, 4, 0), 14 (0, 40)(5, 4, 13), 15 (0, 200)(5, 4, 1), 16 (0, 12)(2, 2, 0), 17 (0, 24)(3, 1, 4), 18 (0, 24)(3, 1, 5), 19 (0, 24)(1, 7, 8)
-- fields: f0 = 1.sky_, f1 = 1.law_, f2 = 3.told_, f3 = 1.x_, f4 = 1.y_, f5 = 3.hour_, f6 = 3.night_, f7 = 3.sightColumns_, f8 = 3.sightRows_, f9 = 3.clouds_, f10 = 5.tellsSeen_, f11 = 1.starsAsked_, f12 = 1.starsHold_, f13 = 5.clauses_, f14 = 5.answer_, f15 = 5.seenByPlace_, f16 = 0.hoursTaken_, f17 = 0.firstStar_; arrays: g0 = 4, g1 = 6, g2 = 7, g3 = 8, g4 = 9, g5 = 10, g6 = 11, g7 = 12, g8 = 13, g9 = 14, g10 = 15, g11 = 16, g12 = 17, g13 = 18, g14 = 19; out: [('ret', None), ('f', 3), ('f', 4), ('f', 5), ('f', 6), ('f', 11), ('f', 12), ('f', 14), ('f', 16), ('f', 17), ('g', 0), ('g', 1), ('g', 2), ('g', 3), ('g', 9), ('g', 14)]
abbrev zy_Pilot_findFastest : zNL := (20, [(0, 9), (1, 7), (2, 2), (3, 1), (5, 4)], [(1, 7, 0, 0), (1, 7, 1, 1), (3, 1, 0, 2), (1, 7, 2, 3), (1, 7, 3, 4), (3, 1, 6, 5), (3, 1, 7, 6), (3, 1, 9, 7), (3, 1, 10, 8), (3, 1, 8, 9), (5, 4, 8, 10), (1, 7, 6, 11), (1, 7, 7, 12), (5, 4, 7, 13), (5, 4, 14, 14), (5, 4, 10, 15), (0, 9, 0, 16), (0, 9, 1, 17)], [(0, 9, 4, 4), (5, 4, 12, 6), (3, 1, 1, 7), (3, 1, 2, 8), (3, 1, 3, 9), (5, 4, 3, 10), (5, 4, 5, 11), (5, 4, 6, 12), (5, 4, 0, 13), (5, 4, 13, 14), (5, 4, 1, 15), (2, 2, 0, 16), (3, 1, 4, 17), (3, 1, 5, 18), (1, 7, 8, 19)], [(4, 0, 24, 0), (6, 0, 13, 1), (7, 0, 24, 2), (8, 0, 24, 3), (9, 0, 24, 4), (10, 0, 14, 5), (11, 0, 14, 6), (12, 0, 14, 7), (13, 0, 200, 8), (14, 0, 40, 9), (15, 0, 200, 10), (16, 0, 12, 11), (17, 0, 24, 12), (18, 0, 24, 13), (19, 0, 24, 14)])
theorem zyw_Pilot_findFastest : zv_wf zy_Pilot_findFastest = true := by decide +kernel
theorem zye_Pilot_findFastest : zv_ek2 zy_Pilot_findFastest = true := by decide +kernel
def zf_Pilot_findFastest_l1_b (x4 : Int) (x7 : Int) (f2 : Int) (f3 : Int) (f4 : Int) (f5 : Int) (f6 : Int) (f11 : Int) (f12 : Int) (f14 : Int) (g0 : (Int → Int)) (g1 : (Int → Int)) (g2 : (Int → Int)) (g3 : (Int → Int)) (g9 : (Int → Int)) (g14 : (Int → Int)) (rec : Int → Option (((Unit) ⊕ (Int × Int × Int × Int × Int × Int × Int × Int × Int × Int × (Int → Int) × (Int → Int) × (Int → Int) × (Int → Int) × (Int → Int) × (Int → Int))))) (x8 : Int) : Option (((Unit) ⊕ (Int × Int × Int × Int × Int × Int × Int × Int × Int × Int × (Int → Int) × (Int → Int) × (Int → Int) × (Int → Int) × (Int → Int) × (Int → Int)))) := if x8 < 24 then ((zf_Sky_hasStar x8 f2).bind fun r6 => (if r6 = 0 then (rec (zi_w (x8 + 1))) else (cond (zi_ix x8 24) (if (g0 x8) = x4 then (some (.inr (1, f3, f4, f5, f6, f11, f12, f14, x7, x8, g0, g1, g2, g3, g9, g14))) else (rec (zi_w (x8 + 1)))) none))) else (some (.inl ()))
def zf_Pilot_findFastest_l1 (x4 : Int) (x7 : Int) (f2 : Int) (f3 : Int) (f4 : Int) (f5 : Int) (f6 : Int) (f11 : Int) (f12 : Int) (f14 : Int) (g0 : (Int → Int)) (g1 : (Int → Int)) (g2 : (Int → Int)) (g3 : (Int → Int)) (g9 : (Int → Int)) (g14 : (Int → Int)) : Nat → Int → Option (((Unit) ⊕ (Int × Int × Int × Int × Int × Int × Int × Int × Int × Int × (Int → Int) × (Int → Int) × (Int → Int) × (Int → Int) × (Int → Int) × (Int → Int))))
  | 0, _ => none
  | n + 1, x8 => zf_Pilot_findFastest_l1_b x4 x7 f2 f3 f4 f5 f6 f11 f12 f14 g0 g1 g2 g3 g9 g14 (zf_Pilot_findFastest_l1 x4 x7 f2 f3 f4 f5 f6 f11 f12 f14 g0 g1 g2 g3 g9 g14 n) x8
def zf_Pilot_findFastest_l0_b (x4 : Int) (x5 : Int) (f2 : Int) (f7 : Int) (f8 : Int) (f9 : Int) (f10 : Int) (f13 : Int) (f15 : Int) (g4 : (Int → Int)) (g5 : (Int → Int)) (g6 : (Int → Int)) (g7 : (Int → Int)) (g8 : (Int → Int)) (g10 : (Int → Int)) (g11 : (Int → Int)) (g12 : (Int → Int)) (g13 : (Int → Int)) (rec : Int → Int → Int → Int → Int → Int → Int → Int → (Int → Int) → (Int → Int) → (Int → Int) → (Int → Int) → (Int → Int) → (Int → Int) → Option (((Int × Int × Int × Int × Int × Int × Int × (Int → Int) × (Int → Int) × (Int → Int) × (Int → Int) × (Int → Int) × (Int → Int)) ⊕ (Int × Int × Int × Int × Int × Int × Int × Int × Int × Int × (Int → Int) × (Int → Int) × (Int → Int) × (Int → Int) × (Int → Int) × (Int → Int))))) (x7 : Int) (f3 : Int) (f4 : Int) (f5 : Int) (f6 : Int) (f11 : Int) (f12 : Int) (f14 : Int) (g0 : (Int → Int)) (g1 : (Int → Int)) (g2 : (Int → Int)) (g3 : (Int → Int)) (g9 : (Int → Int)) (g14 : (Int → Int)) : Option (((Int × Int × Int × Int × Int × Int × Int × (Int → Int) × (Int → Int) × (Int → Int) × (Int → Int) × (Int → Int) × (Int → Int)) ⊕ (Int × Int × Int × Int × Int × Int × Int × Int × Int × Int × (Int → Int) × (Int → Int) × (Int → Int) × (Int → Int) × (Int → Int) × (Int → Int)))) := if x5 < x7 then (some (.inl (f3, f4, f5, f6, f11, f12, f14, g0, g1, g2, g3, g9, g14))) else ((zf_Pilot_stepFirstLegs f2 f3 f4 f5 f6 f7 f8 f9 f10 f11 f12 f13 f14 f15 g0 g1 g2 g3 g4 g5 g6 g7 g8 g9 g10 g11).bind fun r4 => ((zf_Pilot_findFastest_l1 x4 x7 f2 r4.1 r4.2.1 f5 f6 r4.2.2.1 r4.2.2.2.1 r4.2.2.2.2.1 r4.2.2.2.2.2.1 r4.2.2.2.2.2.2.1 g2 g3 r4.2.2.2.2.2.2.2 g14 zi_fu 0).bind fun q10 => Sum.elim (fun e11 => ((zf_Pilot_turnOnward f5 f6 r4.2.2.1 g2 g12 g3 g13 g14).bind fun r12 => (rec (zi_w (x7 + 1)) r4.1 r4.2.1 r12.1 r12.2.1 r12.2.2.1 r4.2.2.2.1 r4.2.2.2.2.1 r4.2.2.2.2.2.1 r4.2.2.2.2.2.2.1 r12.2.2.2.1 r12.2.2.2.2.1 r4.2.2.2.2.2.2.2 r12.2.2.2.2.2))) (fun w13 => some (.inr w13)) q10))
def zf_Pilot_findFastest_l0 (x4 : Int) (x5 : Int) (f2 : Int) (f7 : Int) (f8 : Int) (f9 : Int) (f10 : Int) (f13 : Int) (f15 : Int) (g4 : (Int → Int)) (g5 : (Int → Int)) (g6 : (Int → Int)) (g7 : (Int → Int)) (g8 : (Int → Int)) (g10 : (Int → Int)) (g11 : (Int → Int)) (g12 : (Int → Int)) (g13 : (Int → Int)) : Nat → Int → Int → Int → Int → Int → Int → Int → Int → (Int → Int) → (Int → Int) → (Int → Int) → (Int → Int) → (Int → Int) → (Int → Int) → Option (((Int × Int × Int × Int × Int × Int × Int × (Int → Int) × (Int → Int) × (Int → Int) × (Int → Int) × (Int → Int) × (Int → Int)) ⊕ (Int × Int × Int × Int × Int × Int × Int × Int × Int × Int × (Int → Int) × (Int → Int) × (Int → Int) × (Int → Int) × (Int → Int) × (Int → Int))))
  | 0, _, _, _, _, _, _, _, _, _, _, _, _, _, _ => none
  | n + 1, x7, f3, f4, f5, f6, f11, f12, f14, g0, g1, g2, g3, g9, g14 => zf_Pilot_findFastest_l0_b x4 x5 f2 f7 f8 f9 f10 f13 f15 g4 g5 g6 g7 g8 g10 g11 g12 g13 (zf_Pilot_findFastest_l0 x4 x5 f2 f7 f8 f9 f10 f13 f15 g4 g5 g6 g7 g8 g10 g11 g12 g13 n) x7 f3 f4 f5 f6 f11 f12 f14 g0 g1 g2 g3 g9 g14
def zf_Pilot_findFastest (x3 : Int) (x4 : Int) (x5 : Int) (f2 : Int) (f3 : Int) (f4 : Int) (f5 : Int) (f6 : Int) (f7 : Int) (f8 : Int) (f9 : Int) (f10 : Int) (f11 : Int) (f12 : Int) (f13 : Int) (f14 : Int) (f15 : Int) (f16 : Int) (f17 : Int) (g0 : (Int → Int)) (g1 : (Int → Int)) (g2 : (Int → Int)) (g3 : (Int → Int)) (g4 : (Int → Int)) (g5 : (Int → Int)) (g6 : (Int → Int)) (g7 : (Int → Int)) (g8 : (Int → Int)) (g9 : (Int → Int)) (g10 : (Int → Int)) (g11 : (Int → Int)) (g12 : (Int → Int)) (g13 : (Int → Int)) (g14 : (Int → Int)) : Option (Int × Int × Int × Int × Int × Int × Int × Int × Int × Int × (Int → Int) × (Int → Int) × (Int → Int) × (Int → Int) × (Int → Int) × (Int → Int)) := if x3 = x4 then ((zf_X_lowestOf f2).bind fun r17 => (some (1, f3, f4, f5, f6, f11, f12, f14, 0, r17, g0, g1, g2, g3, g9, g14))) else ((zf_Arrays_fill_24 x3 g0).bind fun r2 => ((zf_Pilot_findFastest_l0 x4 x5 f2 f7 f8 f9 f10 f13 f15 g4 g5 g6 g7 g8 g10 g11 g12 g13 zi_fu 1 f3 f4 f5 f6 f11 f12 f14 r2 g1 g2 g3 g9 g14).bind fun q14 => Sum.elim (fun e15 => (some (0, e15.1, e15.2.1, e15.2.2.1, e15.2.2.2.1, e15.2.2.2.2.1, e15.2.2.2.2.2.1, e15.2.2.2.2.2.2.1, f16, f17, e15.2.2.2.2.2.2.2.1, e15.2.2.2.2.2.2.2.2.1, e15.2.2.2.2.2.2.2.2.2.1, e15.2.2.2.2.2.2.2.2.2.2.1, e15.2.2.2.2.2.2.2.2.2.2.2.1, e15.2.2.2.2.2.2.2.2.2.2.2.2))) (fun w16 => some w16) q14))
theorem zd167_0 : decode zxm167.2.1 0 = .ok (.aload_n 1, 1) := by decide +kernel
theorem zd167_1 : decode zxm167.2.1 1 = .ok (.getfield 75, 3) := by decide +kernel
theorem zd167_4 : decode zxm167.2.1 4 = .ok (.astore 6, 2) := by decide +kernel
theorem zd167_6 : decode zxm167.2.1 6 = .ok (.iload_n 3, 1) := by decide +kernel
theorem zd167_7 : decode zxm167.2.1 7 = .ok (.iload 4, 2) := by decide +kernel
theorem zd167_9 : decode zxm167.2.1 9 = .ok (.if_icmp .ne 22, 3) := by decide +kernel
theorem zd167_12 : decode zxm167.2.1 12 = .ok (.aload_n 0, 1) := by decide +kernel
theorem zd167_13 : decode zxm167.2.1 13 = .ok (.iconst 0, 1) := by decide +kernel
theorem zd167_14 : decode zxm167.2.1 14 = .ok (.putfield 11, 3) := by decide +kernel
theorem zd167_17 : decode zxm167.2.1 17 = .ok (.aload_n 0, 1) := by decide +kernel
theorem zd167_18 : decode zxm167.2.1 18 = .ok (.aload 6, 2) := by decide +kernel
theorem zd167_20 : decode zxm167.2.1 20 = .ok (.getfield 104, 3) := by decide +kernel
theorem zd167_23 : decode zxm167.2.1 23 = .ok (.invokestatic 107, 3) := by decide +kernel
theorem zd167_26 : decode zxm167.2.1 26 = .ok (.putfield 15, 3) := by decide +kernel
theorem zd167_29 : decode zxm167.2.1 29 = .ok (.iconst 1, 1) := by decide +kernel
theorem zd167_30 : decode zxm167.2.1 30 = .ok (.ireturn, 1) := by decide +kernel
theorem zd167_31 : decode zxm167.2.1 31 = .ok (.aload_n 0, 1) := by decide +kernel
theorem zd167_32 : decode zxm167.2.1 32 = .ok (.getfield 24, 3) := by decide +kernel
theorem zd167_35 : decode zxm167.2.1 35 = .ok (.iload_n 3, 1) := by decide +kernel
theorem zd167_36 : decode zxm167.2.1 36 = .ok (.invokestatic 110, 3) := by decide +kernel
theorem zd167_39 : decode zxm167.2.1 39 = .ok (.iconst 1, 1) := by decide +kernel
theorem zd167_40 : decode zxm167.2.1 40 = .ok (.istore 7, 2) := by decide +kernel
theorem zd167_42 : decode zxm167.2.1 42 = .ok (.iload 7, 2) := by decide +kernel
theorem zd167_44 : decode zxm167.2.1 44 = .ok (.iload 5, 2) := by decide +kernel
theorem zd167_46 : decode zxm167.2.1 46 = .ok (.if_icmp .gt 72, 3) := by decide +kernel
theorem zd167_49 : decode zxm167.2.1 49 = .ok (.aload_n 0, 1) := by decide +kernel
theorem zd167_50 : decode zxm167.2.1 50 = .ok (.aload_n 1, 1) := by decide +kernel
theorem zd167_51 : decode zxm167.2.1 51 = .ok (.aload_n 2, 1) := by decide +kernel
theorem zd167_52 : decode zxm167.2.1 52 = .ok (.invokevirtual 116, 3) := by decide +kernel
theorem zd167_55 : decode zxm167.2.1 55 = .ok (.iconst 0, 1) := by decide +kernel
theorem zd167_56 : decode zxm167.2.1 56 = .ok (.istore 8, 2) := by decide +kernel
theorem zd167_58 : decode zxm167.2.1 58 = .ok (.iload 8, 2) := by decide +kernel
theorem zd167_60 : decode zxm167.2.1 60 = .ok (.bipush 24, 2) := by decide +kernel
theorem zd167_62 : decode zxm167.2.1 62 = .ok (.if_icmp .ge 45, 3) := by decide +kernel
theorem zd167_65 : decode zxm167.2.1 65 = .ok (.aload 6, 2) := by decide +kernel
theorem zd167_67 : decode zxm167.2.1 67 = .ok (.iload 8, 2) := by decide +kernel
theorem zd167_69 : decode zxm167.2.1 69 = .ok (.invokevirtual 120, 3) := by decide +kernel
theorem zd167_72 : decode zxm167.2.1 72 = .ok (.ifCond .eq 29, 3) := by decide +kernel
theorem zd167_75 : decode zxm167.2.1 75 = .ok (.aload_n 0, 1) := by decide +kernel
theorem zd167_76 : decode zxm167.2.1 76 = .ok (.getfield 24, 3) := by decide +kernel
theorem zd167_79 : decode zxm167.2.1 79 = .ok (.iload 8, 2) := by decide +kernel
theorem zd167_81 : decode zxm167.2.1 81 = .ok (.iaload, 1) := by decide +kernel
theorem zd167_82 : decode zxm167.2.1 82 = .ok (.iload 4, 2) := by decide +kernel
theorem zd167_84 : decode zxm167.2.1 84 = .ok (.if_icmp .ne 17, 3) := by decide +kernel
theorem zd167_87 : decode zxm167.2.1 87 = .ok (.aload_n 0, 1) := by decide +kernel
theorem zd167_88 : decode zxm167.2.1 88 = .ok (.iload 7, 2) := by decide +kernel
theorem zd167_90 : decode zxm167.2.1 90 = .ok (.putfield 11, 3) := by decide +kernel
theorem zd167_93 : decode zxm167.2.1 93 = .ok (.aload_n 0, 1) := by decide +kernel
theorem zd167_94 : decode zxm167.2.1 94 = .ok (.iload 8, 2) := by decide +kernel
theorem zd167_96 : decode zxm167.2.1 96 = .ok (.putfield 15, 3) := by decide +kernel
theorem zd167_99 : decode zxm167.2.1 99 = .ok (.iconst 1, 1) := by decide +kernel
theorem zd167_100 : decode zxm167.2.1 100 = .ok (.ireturn, 1) := by decide +kernel
theorem zd167_101 : decode zxm167.2.1 101 = .ok (.iinc 8 1, 3) := by decide +kernel
theorem zd167_104 : decode zxm167.2.1 104 = .ok (.goto (-46), 3) := by decide +kernel
theorem zd167_107 : decode zxm167.2.1 107 = .ok (.aload_n 0, 1) := by decide +kernel
theorem zd167_108 : decode zxm167.2.1 108 = .ok (.aload_n 1, 1) := by decide +kernel
theorem zd167_109 : decode zxm167.2.1 109 = .ok (.invokevirtual 123, 3) := by decide +kernel
theorem zd167_112 : decode zxm167.2.1 112 = .ok (.iinc 7 1, 3) := by decide +kernel
theorem zd167_115 : decode zxm167.2.1 115 = .ok (.goto (-73), 3) := by decide +kernel
theorem zd167_118 : decode zxm167.2.1 118 = .ok (.iconst 0, 1) := by decide +kernel
theorem zd167_119 : decode zxm167.2.1 119 = .ok (.ireturn, 1) := by decide +kernel
theorem zt_Pilot_findFastest {x3 : Int} {x4 : Int} {x5 : Int} {f2 : Int} {f3 : Int} {f4 : Int} {f5 : Int} {f6 : Int} {f7 : Int} {f8 : Int} {f9 : Int} {f10 : Int} {f11 : Int} {f12 : Int} {f13 : Int} {f14 : Int} {f15 : Int} {f16 : Int} {f17 : Int} {g0 : (Int → Int)} {g1 : (Int → Int)} {g2 : (Int → Int)} {g3 : (Int → Int)} {g4 : (Int → Int)} {g5 : (Int → Int)} {g6 : (Int → Int)} {g7 : (Int → Int)} {g8 : (Int → Int)} {g9 : (Int → Int)} {g10 : (Int → Int)} {g11 : (Int → Int)} {g12 : (Int → Int)} {g13 : (Int → Int)} {g14 : (Int → Int)} {o : Int × Int × Int × Int × Int × Int × Int × Int × Int × Int × (Int → Int) × (Int → Int) × (Int → Int) × (Int → Int) × (Int → Int) × (Int → Int)} (h : zf_Pilot_findFastest x3 x4 x5 f2 f3 f4 f5 f6 f7 f8 f9 f10 f11 f12 f13 f14 f15 f16 f17 g0 g1 g2 g3 g4 g5 g6 g7 g8 g9 g10 g11 g12 g13 g14 = some o) : zv_Fn z_TB z_cl z_KX zy_Pilot_findFastest zxm167 (6, 360) [.inr 0, .inr 1, .inr 2, .inl x3, .inl x4, .inl x5] [.inr 3, .inr 5, .inl f2, .inl f3, .inl f4, .inl f5, .inl f6, .inl f7, .inl f8, .inl f9, .inl f10, .inl f11, .inl f12, .inl f13, .inl f14, .inl f15, .inl f16, .inl f17] [g0, g1, g2, g3, g4, g5, g6, g7, g8, g9, g10, g11, g12, g13, g14] (some o.1) [.inr 3, .inr 5, .inl f2, .inl o.2.1, .inl o.2.2.1, .inl o.2.2.2.1, .inl o.2.2.2.2.1, .inl f7, .inl f8, .inl f9, .inl f10, .inl o.2.2.2.2.2.1, .inl o.2.2.2.2.2.2.1, .inl f13, .inl o.2.2.2.2.2.2.2.1, .inl f15, .inl o.2.2.2.2.2.2.2.2.1, .inl o.2.2.2.2.2.2.2.2.2.1] [o.2.2.2.2.2.2.2.2.2.2.1, o.2.2.2.2.2.2.2.2.2.2.2.1, o.2.2.2.2.2.2.2.2.2.2.2.2.1, o.2.2.2.2.2.2.2.2.2.2.2.2.2.1, g4, g5, g6, g7, g8, o.2.2.2.2.2.2.2.2.2.2.2.2.2.2.1, g10, g11, g12, g13, o.2.2.2.2.2.2.2.2.2.2.2.2.2.2.2] := zv_meth (K := (z_KF6, z_KC6, z_KL6, z_KT6, [], [], [], none)) (FT := z_FT) (MT := z_MT) (n := 6) zxp167 (z_ks6 _ (fun _ h => List.mem_cons_of_mem _ h) _ _ _ _ (fun j r h _ => by cases h)) (fun _ _ => zs_KX_p) zyw_Pilot_findFastest (fun va F G h => by obtain ⟨rfl, _⟩ := h; rfl) (fun va F G h => by obtain ⟨rfl, _⟩ := h; rfl) rfl fun good va F G hB hret hvret hP => by
  obtain ⟨rfl, rfl, rfl⟩ := hP
  have l1 : ∀ (n : Nat) (x4 : Int) (x5 : Int) (x7 : Int) (x8 : Int) (f3 : Int) (f4 : Int) (f5 : Int) (f6 : Int) (f11 : Int) (f12 : Int) (f14 : Int) (f16 : Int) (f17 : Int) (g0 : (Int → Int)) (g1 : (Int → Int)) (g2 : (Int → Int)) (g3 : (Int → Int)) (g9 : (Int → Int)) (g14 : (Int → Int)) (q : ((Unit) ⊕ (Int × Int × Int × Int × Int × Int × Int × Int × Int × Int × (Int → Int) × (Int → Int) × (Int → Int) × (Int → Int) × (Int → Int) × (Int → Int)))), zf_Pilot_findFastest_l1 x4 x7 f2 f3 f4 f5 f6 f11 f12 f14 g0 g1 g2 g3 g9 g14 n x8 = some q → (Sum.elim (fun e : Unit => good 107 [.inr 0, .inr 1, .inr 2, .inr 1000, .inl x4, .inl x5, .inr 3, .inl x7, .inr 1000] [] [.inr 3, .inr 5, .inl f2, .inl f3, .inl f4, .inl f5, .inl f6, .inl f7, .inl f8, .inl f9, .inl f10, .inl f11, .inl f12, .inl f13, .inl f14, .inl f15, .inl f16, .inl f17] [g0, g1, g2, g3, g4, g5, g6, g7, g8, g9, g10, g11, g12, g13, g14]) (fun w : Int × Int × Int × Int × Int × Int × Int × Int × Int × Int × (Int → Int) × (Int → Int) × (Int → Int) × (Int → Int) × (Int → Int) × (Int → Int) => w = o) q) → good 58 [.inr 0, .inr 1, .inr 2, .inr 1000, .inl x4, .inl x5, .inr 3, .inl x7, .inl x8] [] [.inr 3, .inr 5, .inl f2, .inl f3, .inl f4, .inl f5, .inl f6, .inl f7, .inl f8, .inl f9, .inl f10, .inl f11, .inl f12, .inl f13, .inl f14, .inl f15, .inl f16, .inl f17] [g0, g1, g2, g3, g4, g5, g6, g7, g8, g9, g10, g11, g12, g13, g14] := by
    intro n
    induction n with
    | zero => intro x4 x5 x7 x8 f3 f4 f5 f6 f11 f12 f14 f16 f17 g0 g1 g2 g3 g9 g14 q h; exact absurd (show none = some q from h) (fun h => by cases h)
    | succ n ih =>
      intro x4 x5 x7 x8 f3 f4 f5 f6 f11 f12 f14 f16 f17 g0 g1 g2 g3 g9 g14 q h hK
      replace h : zf_Pilot_findFastest_l1_b x4 x7 f2 f3 f4 f5 f6 f11 f12 f14 g0 g1 g2 g3 g9 g14 (zf_Pilot_findFastest_l1 x4 x7 f2 f3 f4 f5 f6 f11 f12 f14 g0 g1 g2 g3 g9 g14 n) x8 = some q := h
      unfold zf_Pilot_findFastest_l1_b at h
      refine zv_ild hB zd167_58 rfl rfl ?_
      refine zv_con hB zd167_60 rfl ?_
      refine zv_cge hB zd167_62 rfl (fun hc5 => ?_) (fun hc5 => ?_)
      · rw [if_neg (Int.not_lt.mpr hc5)] at h
        have hq := Option.some.inj h
        subst hq
        refine zv_wk hB (L' := [.inr 0, .inr 1, .inr 2, .inr 1000, .inl x4, .inl x5, .inr 3, .inl x7, .inr 1000]) (F' := [.inr 3, .inr 5, .inl f2, .inl f3, .inl f4, .inl f5, .inl f6, .inl f7, .inl f8, .inl f9, .inl f10, .inl f11, .inl f12, .inl f13, .inl f14, .inl f15, .inl f16, .inl f17]) ⟨fun _ => rfl, fun _ => rfl, fun _ => rfl, fun (h : zv_is (.inr 1000)) => (Nat.lt_irrefl 1000 h).elim, fun _ => rfl, fun _ => rfl, fun _ => rfl, fun _ => rfl, fun (h : zv_is (.inr 1000)) => (Nat.lt_irrefl 1000 h).elim, trivial⟩ ⟨fun _ => rfl, fun _ => rfl, fun _ => rfl, fun _ => rfl, fun _ => rfl, fun _ => rfl, fun _ => rfl, fun _ => rfl, fun _ => rfl, fun _ => rfl, fun _ => rfl, fun _ => rfl, fun _ => rfl, fun _ => rfl, fun _ => rfl, fun _ => rfl, fun _ => rfl, fun _ => rfl, trivial⟩ ?_
        exact hK
      · rw [if_pos hc5] at h
        refine zv_ald hB zd167_65 rfl rfl rfl ?_
        refine zv_ild hB zd167_67 rfl rfl ?_
        obtain ⟨r6, hr6, h⟩ := zi_bind h
        refine zv_cv hB (zv_emq (va2 := [.inr 3, .inl x8]) (F := [.inr 3, .inr 5, .inl f2, .inl f3, .inl f4, .inl f5, .inl f6, .inl f7, .inl f8, .inl f9, .inl f10, .inl f11, .inl f12, .inl f13, .inl f14, .inl f15, .inl f16, .inl f17]) (F' := [.inr 3, .inr 5, .inl f2, .inl f3, .inl f4, .inl f5, .inl f6, .inl f7, .inl f8, .inl f9, .inl f10, .inl f11, .inl f12, .inl f13, .inl f14, .inl f15, .inl f16, .inl f17]) (G := [g0, g1, g2, g3, g4, g5, g6, g7, g8, g9, g10, g11, g12, g13, g14]) (G' := [g0, g1, g2, g3, g4, g5, g6, g7, g8, g9, g10, g11, g12, g13, g14]) (ρ := [3]) (φ := [2]) (ψ := []) [none, none, some 0, none, none, none, none, none, none, none, none, none, none, none, none, none, none, none] [none, none, none, none, none, none, none, none, none, none, none, none, none, none, none] zyw_Sky_hasStar zyw_Pilot_findFastest zye_Pilot_findFastest (by decide +kernel) (zt_Sky_hasStar hr6) ⟨⟨_, rfl, fun _ => rfl⟩, trivial⟩ trivial rfl rfl rfl rfl rfl rfl rfl) zd167_69 zxt18 rfl (by decide) (by decide) rfl ?_
        refine zv_zeq hB zd167_72 rfl (fun hc7 => ?_) (fun hc7 => ?_)
        · rw [if_pos hc7] at h
          refine zv_iincw hB zd167_101 rfl rfl ?_
          refine zv_goto hB zd167_104 rfl ?_
          exact ih _ _ _ _ _ _ _ _ _ _ _ _ _ _ _ _ _ _ _ q h hK
        · rw [if_neg hc7] at h
          refine zv_ald hB zd167_75 rfl rfl rfl ?_
          refine zv_getr hB zd167_76 rfl ?_
          refine zv_ild hB zd167_79 rfl rfl ?_
          obtain ⟨c8, h⟩ := zi_if h
          refine zv_iald hB zd167_81 rfl rfl (zi_ix_ok c8).1 (zi_ix_ok c8).2 (fun _ _ => ?_)
          refine zv_ild hB zd167_82 rfl rfl ?_
          refine zv_cne hB zd167_84 rfl (fun hc9 => ?_) (fun hc9 => ?_)
          · rw [if_neg hc9] at h
            refine zv_iincw hB zd167_101 rfl rfl ?_
            refine zv_goto hB zd167_104 rfl ?_
            exact ih _ _ _ _ _ _ _ _ _ _ _ _ _ _ _ _ _ _ _ q h hK
          · rw [if_pos hc9] at h
            refine zv_ald hB zd167_87 rfl rfl rfl ?_
            refine zv_ild hB zd167_88 rfl rfl ?_
            refine zv_putf hB zd167_90 rfl rfl (fun h => by cases h) rfl ?_
            refine zv_ald hB zd167_93 rfl rfl rfl ?_
            refine zv_ild hB zd167_94 rfl rfl ?_
            refine zv_putf hB zd167_96 rfl rfl (fun h => by cases h) rfl ?_
            refine zv_con hB zd167_99 rfl ?_
            have hw : (1, f3, f4, f5, f6, f11, f12, f14, x7, x8, g0, g1, g2, g3, g9, g14) = o := zi_rk (Option.some.inj h) hK
            subst hw
            exact hret _ _ _ _ _ zd167_100 (by constructor <;> decide) ⟨rfl, rfl, rfl⟩
  have l0 : ∀ (n : Nat) (x4 : Int) (x5 : Int) (x7 : Int) (f3 : Int) (f4 : Int) (f5 : Int) (f6 : Int) (f11 : Int) (f12 : Int) (f14 : Int) (f16 : Int) (f17 : Int) (g0 : (Int → Int)) (g1 : (Int → Int)) (g2 : (Int → Int)) (g3 : (Int → Int)) (g9 : (Int → Int)) (g14 : (Int → Int)) (q : ((Int × Int × Int × Int × Int × Int × Int × (Int → Int) × (Int → Int) × (Int → Int) × (Int → Int) × (Int → Int) × (Int → Int)) ⊕ (Int × Int × Int × Int × Int × Int × Int × Int × Int × Int × (Int → Int) × (Int → Int) × (Int → Int) × (Int → Int) × (Int → Int) × (Int → Int)))), zf_Pilot_findFastest_l0 x4 x5 f2 f7 f8 f9 f10 f13 f15 g4 g5 g6 g7 g8 g10 g11 g12 g13 n x7 f3 f4 f5 f6 f11 f12 f14 g0 g1 g2 g3 g9 g14 = some q → (Sum.elim (fun e : Int × Int × Int × Int × Int × Int × Int × (Int → Int) × (Int → Int) × (Int → Int) × (Int → Int) × (Int → Int) × (Int → Int) => good 118 [.inr 1000, .inr 1000, .inr 1000, .inr 1000, .inr 1000, .inr 1000, .inr 1000, .inr 1000, .inr 1000] [] [.inr 3, .inr 5, .inl f2, .inl e.1, .inl e.2.1, .inl e.2.2.1, .inl e.2.2.2.1, .inl f7, .inl f8, .inl f9, .inl f10, .inl e.2.2.2.2.1, .inl e.2.2.2.2.2.1, .inl f13, .inl e.2.2.2.2.2.2.1, .inl f15, .inl f16, .inl f17] [e.2.2.2.2.2.2.2.1, e.2.2.2.2.2.2.2.2.1, e.2.2.2.2.2.2.2.2.2.1, e.2.2.2.2.2.2.2.2.2.2.1, g4, g5, g6, g7, g8, e.2.2.2.2.2.2.2.2.2.2.2.1, g10, g11, g12, g13, e.2.2.2.2.2.2.2.2.2.2.2.2]) (fun w : Int × Int × Int × Int × Int × Int × Int × Int × Int × Int × (Int → Int) × (Int → Int) × (Int → Int) × (Int → Int) × (Int → Int) × (Int → Int) => w = o) q) → good 42 [.inr 0, .inr 1, .inr 2, .inr 1000, .inl x4, .inl x5, .inr 3, .inl x7, .inr 1000] [] [.inr 3, .inr 5, .inl f2, .inl f3, .inl f4, .inl f5, .inl f6, .inl f7, .inl f8, .inl f9, .inl f10, .inl f11, .inl f12, .inl f13, .inl f14, .inl f15, .inl f16, .inl f17] [g0, g1, g2, g3, g4, g5, g6, g7, g8, g9, g10, g11, g12, g13, g14] := by
    intro n
    induction n with
    | zero => intro x4 x5 x7 f3 f4 f5 f6 f11 f12 f14 f16 f17 g0 g1 g2 g3 g9 g14 q h; exact absurd (show none = some q from h) (fun h => by cases h)
    | succ n ih =>
      intro x4 x5 x7 f3 f4 f5 f6 f11 f12 f14 f16 f17 g0 g1 g2 g3 g9 g14 q h hK
      replace h : zf_Pilot_findFastest_l0_b x4 x5 f2 f7 f8 f9 f10 f13 f15 g4 g5 g6 g7 g8 g10 g11 g12 g13 (zf_Pilot_findFastest_l0 x4 x5 f2 f7 f8 f9 f10 f13 f15 g4 g5 g6 g7 g8 g10 g11 g12 g13 n) x7 f3 f4 f5 f6 f11 f12 f14 g0 g1 g2 g3 g9 g14 = some q := h
      unfold zf_Pilot_findFastest_l0_b at h
      refine zv_ild hB zd167_42 rfl rfl ?_
      refine zv_ild hB zd167_44 rfl rfl ?_
      refine zv_cgt hB zd167_46 rfl (fun hc3 => ?_) (fun hc3 => ?_)
      · rw [if_pos hc3] at h
        have hq := Option.some.inj h
        subst hq
        refine zv_wk hB (L' := [.inr 1000, .inr 1000, .inr 1000, .inr 1000, .inr 1000, .inr 1000, .inr 1000, .inr 1000, .inr 1000]) (F' := [.inr 3, .inr 5, .inl f2, .inl f3, .inl f4, .inl f5, .inl f6, .inl f7, .inl f8, .inl f9, .inl f10, .inl f11, .inl f12, .inl f13, .inl f14, .inl f15, .inl f16, .inl f17]) ⟨fun (h : zv_is (.inr 1000)) => (Nat.lt_irrefl 1000 h).elim, fun (h : zv_is (.inr 1000)) => (Nat.lt_irrefl 1000 h).elim, fun (h : zv_is (.inr 1000)) => (Nat.lt_irrefl 1000 h).elim, fun (h : zv_is (.inr 1000)) => (Nat.lt_irrefl 1000 h).elim, fun (h : zv_is (.inr 1000)) => (Nat.lt_irrefl 1000 h).elim, fun (h : zv_is (.inr 1000)) => (Nat.lt_irrefl 1000 h).elim, fun (h : zv_is (.inr 1000)) => (Nat.lt_irrefl 1000 h).elim, fun (h : zv_is (.inr 1000)) => (Nat.lt_irrefl 1000 h).elim, fun (h : zv_is (.inr 1000)) => (Nat.lt_irrefl 1000 h).elim, trivial⟩ ⟨fun _ => rfl, fun _ => rfl, fun _ => rfl, fun _ => rfl, fun _ => rfl, fun _ => rfl, fun _ => rfl, fun _ => rfl, fun _ => rfl, fun _ => rfl, fun _ => rfl, fun _ => rfl, fun _ => rfl, fun _ => rfl, fun _ => rfl, fun _ => rfl, fun _ => rfl, fun _ => rfl, trivial⟩ ?_
        exact hK
      · rw [if_neg (Int.not_lt.mpr hc3)] at h
        refine zv_ald hB zd167_49 rfl rfl rfl ?_
        refine zv_ald hB zd167_50 rfl rfl rfl ?_
        refine zv_ald hB zd167_51 rfl rfl rfl ?_
        obtain ⟨r4, hr4, h⟩ := zi_bind h
        refine zv_cv hB (zv_emq (va2 := [.inr 0, .inr 1, .inr 2]) (F := [.inr 3, .inr 5, .inl f2, .inl f3, .inl f4, .inl f5, .inl f6, .inl f7, .inl f8, .inl f9, .inl f10, .inl f11, .inl f12, .inl f13, .inl f14, .inl f15, .inl f16, .inl f17]) (F' := [.inr 3, .inr 5, .inl f2, .inl r4.1, .inl r4.2.1, .inl f5, .inl f6, .inl f7, .inl f8, .inl f9, .inl f10, .inl r4.2.2.1, .inl r4.2.2.2.1, .inl f13, .inl r4.2.2.2.2.1, .inl f15, .inl f16, .inl f17]) (G := [g0, g1, g2, g3, g4, g5, g6, g7, g8, g9, g10, g11, g12, g13, g14]) (G' := [r4.2.2.2.2.2.1, r4.2.2.2.2.2.2.1, g2, g3, g4, g5, g6, g7, g8, r4.2.2.2.2.2.2.2, g10, g11, g12, g13, g14]) (ρ := [0, 1, 2, 3, 4, 5, 6, 7, 8, 9, 10, 11, 12, 13, 14, 15, 16]) (φ := [0, 2, 1, 3, 4, 5, 6, 7, 8, 9, 10, 11, 12, 13, 14, 15]) (ψ := [0, 1, 2, 3, 4, 5, 6, 7, 8, 9, 10, 11]) [some 0, some 2, some 1, some 3, some 4, some 5, some 6, some 7, some 8, some 9, some 10, some 11, some 12, some 13, some 14, some 15, none, none] [some 0, some 1, some 2, some 3, some 4, some 5, some 6, some 7, some 8, some 9, some 10, some 11, none, none, none] zyw_Pilot_stepFirstLegs zyw_Pilot_findFastest zye_Pilot_findFastest (by decide +kernel) (zt_Pilot_stepFirstLegs hr4) ⟨⟨_, rfl, fun _ => rfl⟩, ⟨_, rfl, fun _ => rfl⟩, ⟨_, rfl, fun _ => rfl⟩, ⟨_, rfl, fun _ => rfl⟩, ⟨_, rfl, fun _ => rfl⟩, ⟨_, rfl, fun _ => rfl⟩, ⟨_, rfl, fun _ => rfl⟩, ⟨_, rfl, fun _ => rfl⟩, ⟨_, rfl, fun _ => rfl⟩, ⟨_, rfl, fun _ => rfl⟩, ⟨_, rfl, fun _ => rfl⟩, ⟨_, rfl, fun _ => rfl⟩, ⟨_, rfl, fun _ => rfl⟩, ⟨_, rfl, fun _ => rfl⟩, ⟨_, rfl, fun _ => rfl⟩, ⟨_, rfl, fun _ => rfl⟩, trivial⟩ ⟨rfl, rfl, rfl, rfl, rfl, rfl, rfl, rfl, rfl, rfl, rfl, rfl, trivial⟩ rfl rfl rfl rfl rfl rfl rfl) zd167_52 zxt168 rfl (by decide) (by decide) rfl ?_
        refine zv_con hB zd167_55 rfl ?_
        refine zv_ist hB zd167_56 rfl rfl rfl ?_
        obtain ⟨q10, hq10, h⟩ := zi_bind h
        refine l1 _ _ _ _ _ _ _ _ _ _ _ _ _ _ _ _ _ _ _ _ q10 hq10 ?_
        rcases q10 with e11 | w13
        · replace h := zi_sl h
          show good 107 [.inr 0, .inr 1, .inr 2, .inr 1000, .inl x4, .inl x5, .inr 3, .inl x7, .inr 1000] [] [.inr 3, .inr 5, .inl f2, .inl r4.1, .inl r4.2.1, .inl f5, .inl f6, .inl f7, .inl f8, .inl f9, .inl f10, .inl r4.2.2.1, .inl r4.2.2.2.1, .inl f13, .inl r4.2.2.2.2.1, .inl f15, .inl f16, .inl f17] [r4.2.2.2.2.2.1, r4.2.2.2.2.2.2.1, g2, g3, g4, g5, g6, g7, g8, r4.2.2.2.2.2.2.2, g10, g11, g12, g13, g14]
          refine zv_ald hB zd167_107 rfl rfl rfl ?_
          refine zv_ald hB zd167_108 rfl rfl rfl ?_
          obtain ⟨r12, hr12, h⟩ := zi_bind h
          refine zv_cv hB (zv_emq (va2 := [.inr 0, .inr 1]) (F := [.inr 3, .inr 5, .inl f2, .inl r4.1, .inl r4.2.1, .inl f5, .inl f6, .inl f7, .inl f8, .inl f9, .inl f10, .inl r4.2.2.1, .inl r4.2.2.2.1, .inl f13, .inl r4.2.2.2.2.1, .inl f15, .inl f16, .inl f17]) (F' := [.inr 3, .inr 5, .inl f2, .inl r4.1, .inl r4.2.1, .inl r12.1, .inl r12.2.1, .inl f7, .inl f8, .inl f9, .inl f10, .inl r12.2.2.1, .inl r4.2.2.2.1, .inl f13, .inl r4.2.2.2.2.1, .inl f15, .inl f16, .inl f17]) (G := [r4.2.2.2.2.2.1, r4.2.2.2.2.2.2.1, g2, g3, g4, g5, g6, g7, g8, r4.2.2.2.2.2.2.2, g10, g11, g12, g13, g14]) (G' := [r4.2.2.2.2.2.1, r4.2.2.2.2.2.2.1, r12.2.2.2.1, r12.2.2.2.2.1, g4, g5, g6, g7, g8, r4.2.2.2.2.2.2.2, g10, g11, g12, g13, r12.2.2.2.2.2]) (ρ := [0, 1, 3, 7, 17, 8, 18, 5, 19]) (φ := [0, 5, 6, 1, 11]) (ψ := [2, 12, 3, 13, 14]) [some 0, some 3, none, none, none, some 1, some 2, none, none, none, none, some 4, none, none, none, none, none, none] [none, none, some 0, some 2, none, none, none, none, none, none, none, none, some 1, some 3, some 4] zyw_Pilot_turnOnward zyw_Pilot_findFastest zye_Pilot_findFastest (by decide +kernel) (zt_Pilot_turnOnward hr12) ⟨⟨_, rfl, fun _ => rfl⟩, ⟨_, rfl, fun _ => rfl⟩, ⟨_, rfl, fun _ => rfl⟩, ⟨_, rfl, fun _ => rfl⟩, ⟨_, rfl, fun _ => rfl⟩, trivial⟩ ⟨rfl, rfl, rfl, rfl, rfl, trivial⟩ rfl rfl rfl rfl rfl rfl rfl) zd167_109 zxt169 rfl (by decide) (by decide) rfl ?_
          refine zv_iincw hB zd167_112 rfl rfl ?_
          refine zv_goto hB zd167_115 rfl ?_
          exact ih _ _ _ _ _ _ _ _ _ _ _ _ _ _ _ _ _ _ q h hK
        · exact zi_rk (Option.some.inj h) hK
  unfold zf_Pilot_findFastest at h
  refine zv_ald hB zd167_0 rfl rfl rfl ?_
  refine zv_getq hB zd167_1 rfl rfl rfl ?_
  refine zv_ast hB zd167_4 rfl rfl rfl rfl ?_
  refine zv_ild hB zd167_6 rfl rfl ?_
  refine zv_ild hB zd167_7 rfl rfl ?_
  refine zv_cne hB zd167_9 rfl (fun hc1 => ?_) (fun hc1 => ?_)
  · rw [if_neg hc1] at h
    refine zv_ald hB zd167_31 rfl rfl rfl ?_
    refine zv_getr hB zd167_32 rfl ?_
    refine zv_ild hB zd167_35 rfl rfl ?_
    obtain ⟨r2, hr2, h⟩ := zi_bind h
    refine zv_cs hB (zv_emq (va2 := [.inr 4, .inl x3]) (F := [.inr 3, .inr 5, .inl f2, .inl f3, .inl f4, .inl f5, .inl f6, .inl f7, .inl f8, .inl f9, .inl f10, .inl f11, .inl f12, .inl f13, .inl f14, .inl f15, .inl f16, .inl f17]) (F' := [.inr 3, .inr 5, .inl f2, .inl f3, .inl f4, .inl f5, .inl f6, .inl f7, .inl f8, .inl f9, .inl f10, .inl f11, .inl f12, .inl f13, .inl f14, .inl f15, .inl f16, .inl f17]) (G := [g0, g1, g2, g3, g4, g5, g6, g7, g8, g9, g10, g11, g12, g13, g14]) (G' := [r2, g1, g2, g3, g4, g5, g6, g7, g8, g9, g10, g11, g12, g13, g14]) (ρ := [4]) (φ := []) (ψ := [0]) [none, none, none, none, none, none, none, none, none, none, none, none, none, none, none, none, none, none] [some 0, none, none, none, none, none, none, none, none, none, none, none, none, none, none] zyw_Arrays_fill_24 zyw_Pilot_findFastest zye_Pilot_findFastest (by decide +kernel) (zt_Arrays_fill_24 hr2) trivial ⟨rfl, trivial⟩ rfl rfl rfl rfl rfl rfl rfl) zd167_36 zxt78 rfl (by decide) (by decide) rfl ?_
    refine zv_con hB zd167_39 rfl ?_
    refine zv_ist hB zd167_40 rfl rfl rfl ?_
    obtain ⟨q14, hq14, h⟩ := zi_bind h
    refine zv_wk hB (L' := [.inr 0, .inr 1, .inr 2, .inr 1000, .inl x4, .inl x5, .inr 3, .inl 1, .inr 1000]) (F' := [.inr 3, .inr 5, .inl f2, .inl f3, .inl f4, .inl f5, .inl f6, .inl f7, .inl f8, .inl f9, .inl f10, .inl f11, .inl f12, .inl f13, .inl f14, .inl f15, .inl f16, .inl f17]) ⟨fun _ => rfl, fun _ => rfl, fun _ => rfl, fun (h : zv_is (.inr 1000)) => (Nat.lt_irrefl 1000 h).elim, fun _ => rfl, fun _ => rfl, fun _ => rfl, fun _ => rfl, fun (h : zv_is (.inr 1000)) => (Nat.lt_irrefl 1000 h).elim, trivial⟩ ⟨fun _ => rfl, fun _ => rfl, fun _ => rfl, fun _ => rfl, fun _ => rfl, fun _ => rfl, fun _ => rfl, fun _ => rfl, fun _ => rfl, fun _ => rfl, fun _ => rfl, fun _ => rfl, fun _ => rfl, fun _ => rfl, fun _ => rfl, fun _ => rfl, fun _ => rfl, fun _ => rfl, trivial⟩ ?_
    refine l0 _ _ _ _ _ _ _ _ _ _ _ _ _ _ _ _ _ _ _ q14 hq14 ?_
    rcases q14 with e15 | w16
    · replace h := zi_sl h
      show good 118 [.inr 1000, .inr 1000, .inr 1000, .inr 1000, .inr 1000, .inr 1000, .inr 1000, .inr 1000, .inr 1000] [] [.inr 3, .inr 5, .inl f2, .inl e15.1, .inl e15.2.1, .inl e15.2.2.1, .inl e15.2.2.2.1, .inl f7, .inl f8, .inl f9, .inl f10, .inl e15.2.2.2.2.1, .inl e15.2.2.2.2.2.1, .inl f13, .inl e15.2.2.2.2.2.2.1, .inl f15, .inl f16, .inl f17] [e15.2.2.2.2.2.2.2.1, e15.2.2.2.2.2.2.2.2.1, e15.2.2.2.2.2.2.2.2.2.1, e15.2.2.2.2.2.2.2.2.2.2.1, g4, g5, g6, g7, g8, e15.2.2.2.2.2.2.2.2.2.2.2.1, g10, g11, g12, g13, e15.2.2.2.2.2.2.2.2.2.2.2.2]
      refine zv_con hB zd167_118 rfl ?_
      have hw := Option.some.inj h
      subst hw
      exact hret _ _ _ _ _ zd167_119 (by constructor <;> decide) ⟨rfl, rfl, rfl⟩
    · exact Option.some.inj h
  · rw [if_pos hc1] at h
    refine zv_ald hB zd167_12 rfl rfl rfl ?_
    refine zv_con hB zd167_13 rfl ?_
    refine zv_putf hB zd167_14 rfl rfl (fun h => by cases h) rfl ?_
    refine zv_ald hB zd167_17 rfl rfl rfl ?_
    refine zv_ald hB zd167_18 rfl rfl rfl ?_
    refine zv_getf hB zd167_20 rfl rfl (fun _ _ => ?_)
    obtain ⟨r17, hr17, h⟩ := zi_bind h
    refine zv_cs hB (zv_emq (va2 := [.inl f2]) (F := [.inr 3, .inr 5, .inl f2, .inl f3, .inl f4, .inl f5, .inl f6, .inl f7, .inl f8, .inl f9, .inl f10, .inl f11, .inl f12, .inl f13, .inl f14, .inl f15, .inl 0, .inl f17]) (F' := [.inr 3, .inr 5, .inl f2, .inl f3, .inl f4, .inl f5, .inl f6, .inl f7, .inl f8, .inl f9, .inl f10, .inl f11, .inl f12, .inl f13, .inl f14, .inl f15, .inl 0, .inl f17]) (G := [g0, g1, g2, g3, g4, g5, g6, g7, g8, g9, g10, g11, g12, g13, g14]) (G' := [g0, g1, g2, g3, g4, g5, g6, g7, g8, g9, g10, g11, g12, g13, g14]) (ρ := []) (φ := []) (ψ := []) [none, none, none, none, none, none, none, none, none, none, none, none, none, none, none, none, none, none] [none, none, none, none, none, none, none, none, none, none, none, none, none, none, none] zyw_X_lowestOf zyw_Pilot_findFastest zye_Pilot_findFastest (by decide +kernel) (zt_X_lowestOf hr17) trivial trivial rfl rfl rfl rfl rfl rfl rfl) zd167_23 zxt105 rfl (by decide) (by decide) rfl ?_
    refine zv_putf hB zd167_26 rfl rfl (fun h => by cases h) rfl ?_
    refine zv_con hB zd167_29 rfl ?_
    have hw := Option.some.inj h
    subst hw
    exact hret _ _ _ _ _ zd167_30 (by constructor <;> decide) ⟨rfl, rfl, rfl⟩
/-! X_fastest (IIIII)I -/
-- names: 0 StarTales('arg', 0), 1 Sea(0, 0, 3), 2 Sky(0, 0, 0), 3 Sky(0, 0, 2), 4 (0, 24)(2, 1, 1), 5 (0, 24)(3, 1, 1), 6 (0, 24)(2, 1, 2), 7 (0, 24)(3, 1, 2), 8 (0, 24)(2, 1, 3), 9 (0, 24)(3, 1, 3), 10 (0, 24)(2, 1, 4), 11 (0, 24)(3, 1, 4), 12 (0, 24)(2, 1, 5), 13 (0, 24)(3, 1, 5), 14 View(0, 0, 12), 15 Law(0, 0, 7), 16 (0, 24)(14, 7, 8), 17 Pilot(0, 0, 15), 18 (0, 6)(1, 2, 2), 19 (0, 24)(17, 9, 4), 20 (0, 13)(15, 4, 12), 21 (0, 14)(15, 4, 3), 22 (0, 14)(15, 4, 5), 23 (0, 14)(15, 4, 6), 24 (0, 200)(15, 4, 0), 25 (0, 40)(15, 4, 13), 26 (0, 200)(15, 4, 1), 27 (0, 12)(1, 2, 0)
-- fields: f0 = 1.shipsTold_, f1 = 2.told_, f2 = 3.told_, f3 = 2.hour_, f4 = 3.hour_, f5 = 2.night_, f6 = 3.night_, f7 = 2.clouds_, f8 = 3.clouds_, f9 = 2.sightColumns_, f10 = 3.sightColumns_, f11 = 2.sightRows_, f12 = 3.sightRows_, f13 = 2.chance_, f14 = 3.chance_, f15 = 0.ruling_, f16 = 14.sky_, f17 = 14.law_, f18 = 14.starsAsked_, f19 = 14.x_, f20 = 14.y_, f21 = 15.tellsSeen_, f22 = 14.starsHold_, f23 = 15.clauses_, f24 = 15.answer_, f25 = 15.seenByPlace_, f26 = 17.hoursTaken_, f27 = 17.firstStar_; arrays: g0 = 4, g1 = 5, g2 = 6, g3 = 7, g4 = 8, g5 = 9, g6 = 10, g7 = 11, g8 = 12, g9 = 13, g10 = 16, g11 = 18, g12 = 19, g13 = 20, g14 = 21, g15 = 22, g16 = 23, g17 = 24, g18 = 25, g19 = 26, g20 = 27; out: [('ret', None), ('f', 2), ('f', 4), ('f', 6), ('f', 8), ('f', 10), ('f', 12), ('f', 14), ('f', 18), ('f', 19), ('f', 20), ('f', 22), ('f', 24), ('f', 26), ('f', 27), ('g', 1), ('g', 3), ('g', 5), ('g', 7), ('g', 9), ('g', 10), ('g', 12), ('g', 13), ('g', 18)]
abbrev zy_X_fastest : zNL := (28, [(0, 0), (1, 2), (2, 1), (3, 1), (14, 7), (15, 4), (17, 9)], [(1, 2, 1, 0), (2, 1, 0, 1), (3, 1, 0, 2), (2, 1, 6, 3), (3, 1, 6, 4), (2, 1, 7, 5), (3, 1, 7, 6), (2, 1, 8, 7), (3, 1, 8, 8), (2, 1, 9, 9), (3, 1, 9, 10), (2, 1, 10, 11), (3, 1, 10, 12), (2, 1, 11, 13), (3, 1, 11, 14), (0, 0, 7, 15), (14, 7, 0, 16), (14, 7, 1, 17), (14, 7, 6, 18), (14, 7, 2, 19), (14, 7, 3, 20), (15, 4, 8, 21), (14, 7, 7, 22), (15, 4, 7, 23), (15, 4, 14, 24), (15, 4, 10, 25), (17, 9, 0, 26), (17, 9, 1, 27)], [(0, 0, 3, 1), (0, 0, 0, 2), (0, 0, 2, 3), (2, 1, 1, 4), (3, 1, 1, 5), (2, 1, 2, 6), (3, 1, 2, 7), (2, 1, 3, 8), (3, 1, 3, 9), (2, 1, 4, 10), (3, 1, 4, 11), (2, 1, 5, 12), (3, 1, 5, 13), (0, 0, 12, 14), (14, 7, 8, 16), (0, 0, 15, 17), (1, 2, 2, 18), (17, 9, 4, 19), (15, 4, 12, 20), (15, 4, 3, 21), (15, 4, 5, 22), (15, 4, 6, 23), (15, 4, 0, 24), (15, 4, 13, 25), (15, 4, 1, 26), (1, 2, 0, 27)], [(4, 0, 24, 0), (5, 0, 24, 1), (6, 0, 24, 2), (7, 0, 24, 3), (8, 0, 24, 4), (9, 0, 24, 5), (10, 0, 24, 6), (11, 0, 24, 7), (12, 0, 24, 8), (13, 0, 24, 9), (16, 0, 24, 10), (18, 0, 6, 11), (19, 0, 24, 12), (20, 0, 13, 13), (21, 0, 14, 14), (22, 0, 14, 15), (23, 0, 14, 16), (24, 0, 200, 17), (25, 0, 40, 18), (26, 0, 200, 19), (27, 0, 12, 20)])
theorem zyw_X_fastest : zv_wf zy_X_fastest = true := by decide +kernel
theorem zye_X_fastest : zv_ek2 zy_X_fastest = true := by decide +kernel
def zf_X_fastest (x1 : Int) (x2 : Int) (x3 : Int) (x4 : Int) (x5 : Int) (f0 : Int) (f1 : Int) (f2 : Int) (f3 : Int) (f4 : Int) (f5 : Int) (f6 : Int) (f7 : Int) (f8 : Int) (f9 : Int) (f10 : Int) (f11 : Int) (f12 : Int) (f13 : Int) (f14 : Int) (f18 : Int) (f19 : Int) (f20 : Int) (f21 : Int) (f22 : Int) (f23 : Int) (f24 : Int) (f25 : Int) (f26 : Int) (f27 : Int) (g0 : (Int → Int)) (g1 : (Int → Int)) (g2 : (Int → Int)) (g3 : (Int → Int)) (g4 : (Int → Int)) (g5 : (Int → Int)) (g6 : (Int → Int)) (g7 : (Int → Int)) (g8 : (Int → Int)) (g9 : (Int → Int)) (g10 : (Int → Int)) (g11 : (Int → Int)) (g12 : (Int → Int)) (g13 : (Int → Int)) (g14 : (Int → Int)) (g15 : (Int → Int)) (g16 : (Int → Int)) (g17 : (Int → Int)) (g18 : (Int → Int)) (g19 : (Int → Int)) (g20 : (Int → Int)) : Option (Int × Int × Int × Int × Int × Int × Int × Int × Int × Int × Int × Int × Int × Int × Int × (Int → Int) × (Int → Int) × (Int → Int) × (Int → Int) × (Int → Int) × (Int → Int) × (Int → Int) × (Int → Int) × (Int → Int)) := (zf_X_canAskVoyage x1 x2 x3 f0 f1).bind fun r1 => (if r1 = 0 then (some ((-1), f2, f4, f6, f8, f10, f12, f14, f18, f19, f20, f22, f24, f26, f27, g1, g3, g5, g7, g9, g10, g12, g13, g18)) else ((zf_X_isWithin x4 1 48).bind fun r3 => (if r3 = 0 then (some ((-1), f2, f4, f6, f8, f10, f12, f14, f18, f19, f20, f22, f24, f26, f27, g1, g3, g5, g7, g9, g10, g12, g13, g18)) else ((zf_X_isWithin x5 0 1).bind fun r5 => (if r5 = 0 then (some ((-1), f2, f4, f6, f8, f10, f12, f14, f18, f19, f20, f22, f24, f26, f27, g1, g3, g5, g7, g9, g10, g12, g13, g18)) else ((zf_Sky_copyFrom f1 f2 f3 f4 f5 f6 f7 f8 f9 f10 f11 f12 f13 f14 g0 g1 g2 g3 g4 g5 g6 g7 g8 g9).bind fun r7 => ((zf_View_open f18 g10).bind fun r8 => (cond (zi_ix x1 6) ((zf_X_placeOf x2 x3).bind fun r10 => ((zf_Pilot_findFastest (g11 x1) r10 x4 r7.1 f19 f20 r7.2.1 r7.2.2.1 r7.2.2.2.2.1 r7.2.2.2.2.2.1 r7.2.2.2.1 f21 r8.1 f22 f23 f24 f25 f26 f27 g12 g13 r7.2.2.2.2.2.2.2.1 r7.2.2.2.2.2.2.2.2.1 r7.2.2.2.2.2.2.2.2.2.1 g14 g15 g16 g17 g18 g19 g20 r7.2.2.2.2.2.2.2.2.2.2.1 r7.2.2.2.2.2.2.2.2.2.2.2 r8.2).bind fun r11 => (if r11.1 = 0 then (some ((-2), r7.1, r11.2.2.2.1, r11.2.2.2.2.1, r7.2.2.2.1, r7.2.2.2.2.1, r7.2.2.2.2.2.1, r7.2.2.2.2.2.2.1, r11.2.2.2.2.2.1, r11.2.1, r11.2.2.1, r11.2.2.2.2.2.2.1, r11.2.2.2.2.2.2.2.1, r11.2.2.2.2.2.2.2.2.1, r11.2.2.2.2.2.2.2.2.2.1, r11.2.2.2.2.2.2.2.2.2.2.2.2.1, r11.2.2.2.2.2.2.2.2.2.2.2.2.2.1, r7.2.2.2.2.2.2.2.2.2.1, r7.2.2.2.2.2.2.2.2.2.2.1, r7.2.2.2.2.2.2.2.2.2.2.2, r11.2.2.2.2.2.2.2.2.2.2.2.2.2.2.2, r11.2.2.2.2.2.2.2.2.2.2.1, r11.2.2.2.2.2.2.2.2.2.2.2.1, r11.2.2.2.2.2.2.2.2.2.2.2.2.2.2.1)) else (if x5 = 0 then (some (r11.2.2.2.2.2.2.2.2.1, r7.1, r11.2.2.2.1, r11.2.2.2.2.1, r7.2.2.2.1, r7.2.2.2.2.1, r7.2.2.2.2.2.1, r7.2.2.2.2.2.2.1, r11.2.2.2.2.2.1, r11.2.1, r11.2.2.1, r11.2.2.2.2.2.2.1, r11.2.2.2.2.2.2.2.1, r11.2.2.2.2.2.2.2.2.1, r11.2.2.2.2.2.2.2.2.2.1, r11.2.2.2.2.2.2.2.2.2.2.2.2.1, r11.2.2.2.2.2.2.2.2.2.2.2.2.2.1, r7.2.2.2.2.2.2.2.2.2.1, r7.2.2.2.2.2.2.2.2.2.2.1, r7.2.2.2.2.2.2.2.2.2.2.2, r11.2.2.2.2.2.2.2.2.2.2.2.2.2.2.2, r11.2.2.2.2.2.2.2.2.2.2.1, r11.2.2.2.2.2.2.2.2.2.2.2.1, r11.2.2.2.2.2.2.2.2.2.2.2.2.2.2.1)) else (some (r11.2.2.2.2.2.2.2.2.2.1, r7.1, r11.2.2.2.1, r11.2.2.2.2.1, r7.2.2.2.1, r7.2.2.2.2.1, r7.2.2.2.2.2.1, r7.2.2.2.2.2.2.1, r11.2.2.2.2.2.1, r11.2.1, r11.2.2.1, r11.2.2.2.2.2.2.1, r11.2.2.2.2.2.2.2.1, r11.2.2.2.2.2.2.2.2.1, r11.2.2.2.2.2.2.2.2.2.1, r11.2.2.2.2.2.2.2.2.2.2.2.2.1, r11.2.2.2.2.2.2.2.2.2.2.2.2.2.1, r7.2.2.2.2.2.2.2.2.2.1, r7.2.2.2.2.2.2.2.2.2.2.1, r7.2.2.2.2.2.2.2.2.2.2.2, r11.2.2.2.2.2.2.2.2.2.2.2.2.2.2.2, r11.2.2.2.2.2.2.2.2.2.2.1, r11.2.2.2.2.2.2.2.2.2.2.2.1, r11.2.2.2.2.2.2.2.2.2.2.2.2.2.2.1)))))) none))))))))
theorem zd165_0 : decode zxm165.2.1 0 = .ok (.aload_n 0, 1) := by decide +kernel
theorem zd165_1 : decode zxm165.2.1 1 = .ok (.iload_n 1, 1) := by decide +kernel
theorem zd165_2 : decode zxm165.2.1 2 = .ok (.iload_n 2, 1) := by decide +kernel
theorem zd165_3 : decode zxm165.2.1 3 = .ok (.iload_n 3, 1) := by decide +kernel
theorem zd165_4 : decode zxm165.2.1 4 = .ok (.invokevirtual 353, 3) := by decide +kernel
theorem zd165_7 : decode zxm165.2.1 7 = .ok (.ifCond .eq 24, 3) := by decide +kernel
theorem zd165_10 : decode zxm165.2.1 10 = .ok (.iload 4, 2) := by decide +kernel
theorem zd165_12 : decode zxm165.2.1 12 = .ok (.iconst 1, 1) := by decide +kernel
theorem zd165_13 : decode zxm165.2.1 13 = .ok (.bipush 48, 2) := by decide +kernel
theorem zd165_15 : decode zxm165.2.1 15 = .ok (.invokestatic 126, 3) := by decide +kernel
theorem zd165_18 : decode zxm165.2.1 18 = .ok (.ifCond .eq 13, 3) := by decide +kernel
theorem zd165_21 : decode zxm165.2.1 21 = .ok (.iload 5, 2) := by decide +kernel
theorem zd165_23 : decode zxm165.2.1 23 = .ok (.iconst 0, 1) := by decide +kernel
theorem zd165_24 : decode zxm165.2.1 24 = .ok (.iconst 1, 1) := by decide +kernel
theorem zd165_25 : decode zxm165.2.1 25 = .ok (.invokestatic 126, 3) := by decide +kernel
theorem zd165_28 : decode zxm165.2.1 28 = .ok (.ifCond .ne 5, 3) := by decide +kernel
theorem zd165_31 : decode zxm165.2.1 31 = .ok (.iconst (-1), 1) := by decide +kernel
theorem zd165_32 : decode zxm165.2.1 32 = .ok (.ireturn, 1) := by decide +kernel
theorem zd165_33 : decode zxm165.2.1 33 = .ok (.aload_n 0, 1) := by decide +kernel
theorem zd165_34 : decode zxm165.2.1 34 = .ok (.getfield 19, 3) := by decide +kernel
theorem zd165_37 : decode zxm165.2.1 37 = .ok (.aload_n 0, 1) := by decide +kernel
theorem zd165_38 : decode zxm165.2.1 38 = .ok (.getfield 10, 3) := by decide +kernel
theorem zd165_41 : decode zxm165.2.1 41 = .ok (.invokevirtual 273, 3) := by decide +kernel
theorem zd165_44 : decode zxm165.2.1 44 = .ok (.aload_n 0, 1) := by decide +kernel
theorem zd165_45 : decode zxm165.2.1 45 = .ok (.getfield 81, 3) := by decide +kernel
theorem zd165_48 : decode zxm165.2.1 48 = .ok (.aload_n 0, 1) := by decide +kernel
theorem zd165_49 : decode zxm165.2.1 49 = .ok (.getfield 19, 3) := by decide +kernel
theorem zd165_52 : decode zxm165.2.1 52 = .ok (.aload_n 0, 1) := by decide +kernel
theorem zd165_53 : decode zxm165.2.1 53 = .ok (.getfield 46, 3) := by decide +kernel
theorem zd165_56 : decode zxm165.2.1 56 = .ok (.invokevirtual 211, 3) := by decide +kernel
theorem zd165_59 : decode zxm165.2.1 59 = .ok (.aload_n 0, 1) := by decide +kernel
theorem zd165_60 : decode zxm165.2.1 60 = .ok (.getfield 103, 3) := by decide +kernel
theorem zd165_63 : decode zxm165.2.1 63 = .ok (.aload_n 0, 1) := by decide +kernel
theorem zd165_64 : decode zxm165.2.1 64 = .ok (.getfield 81, 3) := by decide +kernel
theorem zd165_67 : decode zxm165.2.1 67 = .ok (.aload_n 0, 1) := by decide +kernel
theorem zd165_68 : decode zxm165.2.1 68 = .ok (.getfield 25, 3) := by decide +kernel
theorem zd165_71 : decode zxm165.2.1 71 = .ok (.aload_n 0, 1) := by decide +kernel
theorem zd165_72 : decode zxm165.2.1 72 = .ok (.getfield 25, 3) := by decide +kernel
theorem zd165_75 : decode zxm165.2.1 75 = .ok (.getfield 187, 3) := by decide +kernel
theorem zd165_78 : decode zxm165.2.1 78 = .ok (.iload_n 1, 1) := by decide +kernel
theorem zd165_79 : decode zxm165.2.1 79 = .ok (.iaload, 1) := by decide +kernel
theorem zd165_80 : decode zxm165.2.1 80 = .ok (.iload_n 2, 1) := by decide +kernel
theorem zd165_81 : decode zxm165.2.1 81 = .ok (.iload_n 3, 1) := by decide +kernel
theorem zd165_82 : decode zxm165.2.1 82 = .ok (.invokestatic 170, 3) := by decide +kernel
theorem zd165_85 : decode zxm165.2.1 85 = .ok (.iload 4, 2) := by decide +kernel
theorem zd165_87 : decode zxm165.2.1 87 = .ok (.invokevirtual 356, 3) := by decide +kernel
theorem zd165_90 : decode zxm165.2.1 90 = .ok (.ifCond .ne 6, 3) := by decide +kernel
theorem zd165_93 : decode zxm165.2.1 93 = .ok (.bipush (-2), 2) := by decide +kernel
theorem zd165_95 : decode zxm165.2.1 95 = .ok (.ireturn, 1) := by decide +kernel
theorem zd165_96 : decode zxm165.2.1 96 = .ok (.iload 5, 2) := by decide +kernel
theorem zd165_98 : decode zxm165.2.1 98 = .ok (.ifCond .ne 13, 3) := by decide +kernel
theorem zd165_101 : decode zxm165.2.1 101 = .ok (.aload_n 0, 1) := by decide +kernel
theorem zd165_102 : decode zxm165.2.1 102 = .ok (.getfield 103, 3) := by decide +kernel
theorem zd165_105 : decode zxm165.2.1 105 = .ok (.getfield 360, 3) := by decide +kernel
theorem zd165_108 : decode zxm165.2.1 108 = .ok (.goto 10, 3) := by decide +kernel
theorem zd165_111 : decode zxm165.2.1 111 = .ok (.aload_n 0, 1) := by decide +kernel
theorem zd165_112 : decode zxm165.2.1 112 = .ok (.getfield 103, 3) := by decide +kernel
theorem zd165_115 : decode zxm165.2.1 115 = .ok (.getfield 363, 3) := by decide +kernel
theorem zd165_118 : decode zxm165.2.1 118 = .ok (.ireturn, 1) := by decide +kernel
theorem zt_X_fastest {x1 : Int} {x2 : Int} {x3 : Int} {x4 : Int} {x5 : Int} {f0 : Int} {f1 : Int} {f2 : Int} {f3 : Int} {f4 : Int} {f5 : Int} {f6 : Int} {f7 : Int} {f8 : Int} {f9 : Int} {f10 : Int} {f11 : Int} {f12 : Int} {f13 : Int} {f14 : Int} {f18 : Int} {f19 : Int} {f20 : Int} {f21 : Int} {f22 : Int} {f23 : Int} {f24 : Int} {f25 : Int} {f26 : Int} {f27 : Int} {g0 : (Int → Int)} {g1 : (Int → Int)} {g2 : (Int → Int)} {g3 : (Int → Int)} {g4 : (Int → Int)} {g5 : (Int → Int)} {g6 : (Int → Int)} {g7 : (Int → Int)} {g8 : (Int → Int)} {g9 : (Int → Int)} {g10 : (Int → Int)} {g11 : (Int → Int)} {g12 : (Int → Int)} {g13 : (Int → Int)} {g14 : (Int → Int)} {g15 : (Int → Int)} {g16 : (Int → Int)} {g17 : (Int → Int)} {g18 : (Int → Int)} {g19 : (Int → Int)} {g20 : (Int → Int)} {o : Int × Int × Int × Int × Int × Int × Int × Int × Int × Int × Int × Int × Int × Int × Int × (Int → Int) × (Int → Int) × (Int → Int) × (Int → Int) × (Int → Int) × (Int → Int) × (Int → Int) × (Int → Int) × (Int → Int)} (h : zf_X_fastest x1 x2 x3 x4 x5 f0 f1 f2 f3 f4 f5 f6 f7 f8 f9 f10 f11 f12 f13 f14 f18 f19 f20 f21 f22 f23 f24 f25 f26 f27 g0 g1 g2 g3 g4 g5 g6 g7 g8 g9 g10 g11 g12 g13 g14 g15 g16 g17 g18 g19 g20 = some o) : zv_Fn z_TB z_cl z_KX zy_X_fastest zxm165 (7, 420) [.inr 0, .inl x1, .inl x2, .inl x3, .inl x4, .inl x5] [.inl f0, .inl f1, .inl f2, .inl f3, .inl f4, .inl f5, .inl f6, .inl f7, .inl f8, .inl f9, .inl f10, .inl f11, .inl f12, .inl f13, .inl f14, .inr 15, .inr 1000, .inr 1000, .inl f18, .inl f19, .inl f20, .inl f21, .inl f22, .inl f23, .inl f24, .inl f25, .inl f26, .inl f27] [g0, g1, g2, g3, g4, g5, g6, g7, g8, g9, g10, g11, g12, g13, g14, g15, g16, g17, g18, g19, g20] (some o.1) [.inl f0, .inl f1, .inl o.2.1, .inl f3, .inl o.2.2.1, .inl f5, .inl o.2.2.2.1, .inl f7, .inl o.2.2.2.2.1, .inl f9, .inl o.2.2.2.2.2.1, .inl f11, .inl o.2.2.2.2.2.2.1, .inl f13, .inl o.2.2.2.2.2.2.2.1, .inr 15, .inr 1000, .inr 1000, .inl o.2.2.2.2.2.2.2.2.1, .inl o.2.2.2.2.2.2.2.2.2.1, .inl o.2.2.2.2.2.2.2.2.2.2.1, .inl f21, .inl o.2.2.2.2.2.2.2.2.2.2.2.1, .inl f23, .inl o.2.2.2.2.2.2.2.2.2.2.2.2.1, .inl f25, .inl o.2.2.2.2.2.2.2.2.2.2.2.2.2.1, .inl o.2.2.2.2.2.2.2.2.2.2.2.2.2.2.1] [g0, o.2.2.2.2.2.2.2.2.2.2.2.2.2.2.2.1, g2, o.2.2.2.2.2.2.2.2.2.2.2.2.2.2.2.2.1, g4, o.2.2.2.2.2.2.2.2.2.2.2.2.2.2.2.2.2.1, g6, o.2.2.2.2.2.2.2.2.2.2.2.2.2.2.2.2.2.2.1, g8, o.2.2.2.2.2.2.2.2.2.2.2.2.2.2.2.2.2.2.2.1, o.2.2.2.2.2.2.2.2.2.2.2.2.2.2.2.2.2.2.2.2.1, g11, o.2.2.2.2.2.2.2.2.2.2.2.2.2.2.2.2.2.2.2.2.2.1, o.2.2.2.2.2.2.2.2.2.2.2.2.2.2.2.2.2.2.2.2.2.2.1, g14, g15, g16, g17, o.2.2.2.2.2.2.2.2.2.2.2.2.2.2.2.2.2.2.2.2.2.2.2, g19, g20] := zv_meth (K := (z_KF0, z_KC0, z_KL0, z_KT0, [], [], [], none)) (FT := z_FT) (MT := z_MT) (n := 6) zxp165 (z_ks0 _ (fun _ h => List.mem_cons_of_mem _ h) _ _ _ _ (fun j r h _ => by cases h)) (fun _ _ => zs_KX_p) zyw_X_fastest (fun va F G h => by obtain ⟨rfl, _⟩ := h; rfl) (fun va F G h => by obtain ⟨rfl, _⟩ := h; rfl) rfl fun good va F G hB hret hvret hP => by
  obtain ⟨rfl, rfl, rfl⟩ := hP
  unfold zf_X_fastest at h
  refine zv_ald hB zd165_0 rfl rfl rfl ?_
  refine zv_ild hB zd165_1 rfl rfl ?_
  refine zv_ild hB zd165_2 rfl rfl ?_
  refine zv_ild hB zd165_3 rfl rfl ?_
  obtain ⟨r1, hr1, h⟩ := zi_bind h
  refine zv_cv hB (zv_emq (va2 := [.inr 0, .inl x1, .inl x2, .inl x3]) (F := [.inl f0, .inl f1, .inl f2, .inl f3, .inl f4, .inl f5, .inl f6, .inl f7, .inl f8, .inl f9, .inl f10, .inl f11, .inl f12, .inl f13, .inl f14, .inr 15, .inr 1000, .inr 1000, .inl f18, .inl f19, .inl f20, .inl f21, .inl f22, .inl f23, .inl f24, .inl f25, .inl f26, .inl f27]) (F' := [.inl f0, .inl f1, .inl f2, .inl f3, .inl f4, .inl f5, .inl f6, .inl f7, .inl f8, .inl f9, .inl f10, .inl f11, .inl f12, .inl f13, .inl f14, .inr 15, .inr 1000, .inr 1000, .inl f18, .inl f19, .inl f20, .inl f21, .inl f22, .inl f23, .inl f24, .inl f25, .inl f26, .inl f27]) (G := [g0, g1, g2, g3, g4, g5, g6, g7, g8, g9, g10, g11, g12, g13, g14, g15, g16, g17, g18, g19, g20]) (G' := [g0, g1, g2, g3, g4, g5, g6, g7, g8, g9, g10, g11, g12, g13, g14, g15, g16, g17, g18, g19, g20]) (ρ := [0, 1, 2]) (φ := [0, 1]) (ψ := []) [some 0, some 1, none, none, none, none, none, none, none, none, none, none, none, none, none, none, none, none, none, none, none, none, none, none, none, none, none, none] [none, none, none, none, none, none, none, none, none, none, none, none, none, none, none, none, none, none, none, none, none] zyw_X_canAskVoyage zyw_X_fastest zye_X_fastest (by decide +kernel) (zt_X_canAskVoyage hr1) ⟨⟨_, rfl, fun _ => rfl⟩, ⟨_, rfl, fun _ => rfl⟩, trivial⟩ trivial rfl rfl rfl rfl rfl rfl rfl) zd165_4 zxt166 rfl (by decide) (by decide) rfl ?_
  refine zv_zeq hB zd165_7 rfl (fun hc2 => ?_) (fun hc2 => ?_)
  · rw [if_pos hc2] at h
    refine zv_con hB zd165_31 rfl ?_
    have hw := Option.some.inj h
    subst hw
    exact hret _ _ _ _ _ zd165_32 (by trivial) ⟨rfl, rfl, rfl⟩
  · rw [if_neg hc2] at h
    refine zv_ild hB zd165_10 rfl rfl ?_
    refine zv_con hB zd165_12 rfl ?_
    refine zv_con hB zd165_13 rfl ?_
    obtain ⟨r3, hr3, h⟩ := zi_bind h
    refine zv_cs hB (zv_emq (va2 := [.inl x4, .inl 1, .inl 48]) (F := [.inl f0, .inl f1, .inl f2, .inl f3, .inl f4, .inl f5, .inl f6, .inl f7, .inl f8, .inl f9, .inl f10, .inl f11, .inl f12, .inl f13, .inl f14, .inr 15, .inr 1000, .inr 1000, .inl f18, .inl f19, .inl f20, .inl f21, .inl f22, .inl f23, .inl f24, .inl f25, .inl f26, .inl f27]) (F' := [.inl f0, .inl f1, .inl f2, .inl f3, .inl f4, .inl f5, .inl f6, .inl f7, .inl f8, .inl f9, .inl f10, .inl f11, .inl f12, .inl f13, .inl f14, .inr 15, .inr 1000, .inr 1000, .inl f18, .inl f19, .inl f20, .inl f21, .inl f22, .inl f23, .inl f24, .inl f25, .inl f26, .inl f27]) (G := [g0, g1, g2, g3, g4, g5, g6, g7, g8, g9, g10, g11, g12, g13, g14, g15, g16, g17, g18, g19, g20]) (G' := [g0, g1, g2, g3, g4, g5, g6, g7, g8, g9, g10, g11, g12, g13, g14, g15, g16, g17, g18, g19, g20]) (ρ := []) (φ := []) (ψ := []) [none, none, none, none, none, none, none, none, none, none, none, none, none, none, none, none, none, none, none, none, none, none, none, none, none, none, none, none] [none, none, none, none, none, none, none, none, none, none, none, none, none, none, none, none, none, none, none, none, none] zyw_X_isWithin zyw_X_fastest zye_X_fastest (by decide +kernel) (zt_X_isWithin hr3) trivial trivial rfl rfl rfl rfl rfl rfl rfl) zd165_15 zxt15 rfl (by decide) (by decide) rfl ?_
    refine zv_zeq hB zd165_18 rfl (fun hc4 => ?_) (fun hc4 => ?_)
    · rw [if_pos hc4] at h
      refine zv_con hB zd165_31 rfl ?_
      have hw := Option.some.inj h
      subst hw
      exact hret _ _ _ _ _ zd165_32 (by trivial) ⟨rfl, rfl, rfl⟩
    · rw [if_neg hc4] at h
      refine zv_ild hB zd165_21 rfl rfl ?_
      refine zv_con hB zd165_23 rfl ?_
      refine zv_con hB zd165_24 rfl ?_
      obtain ⟨r5, hr5, h⟩ := zi_bind h
      refine zv_cs hB (zv_emq (va2 := [.inl x5, .inl 0, .inl 1]) (F := [.inl f0, .inl f1, .inl f2, .inl f3, .inl f4, .inl f5, .inl f6, .inl f7, .inl f8, .inl f9, .inl f10, .inl f11, .inl f12, .inl f13, .inl f14, .inr 15, .inr 1000, .inr 1000, .inl f18, .inl f19, .inl f20, .inl f21, .inl f22, .inl f23, .inl f24, .inl f25, .inl f26, .inl f27]) (F' := [.inl f0, .inl f1, .inl f2, .inl f3, .inl f4, .inl f5, .inl f6, .inl f7, .inl f8, .inl f9, .inl f10, .inl f11, .inl f12, .inl f13, .inl f14, .inr 15, .inr 1000, .inr 1000, .inl f18, .inl f19, .inl f20, .inl f21, .inl f22, .inl f23, .inl f24, .inl f25, .inl f26, .inl f27]) (G := [g0, g1, g2, g3, g4, g5, g6, g7, g8, g9, g10, g11, g12, g13, g14, g15, g16, g17, g18, g19, g20]) (G' := [g0, g1, g2, g3, g4, g5, g6, g7, g8, g9, g10, g11, g12, g13, g14, g15, g16, g17, g18, g19, g20]) (ρ := []) (φ := []) (ψ := []) [none, none, none, none, none, none, none, none, none, none, none, none, none, none, none, none, none, none, none, none, none, none, none, none, none, none, none, none] [none, none, none, none, none, none, none, none, none, none, none, none, none, none, none, none, none, none, none, none, none] zyw_X_isWithin zyw_X_fastest zye_X_fastest (by decide +kernel) (zt_X_isWithin hr5) trivial trivial rfl rfl rfl rfl rfl rfl rfl) zd165_25 zxt15 rfl (by decide) (by decide) rfl ?_
      refine zv_zne hB zd165_28 rfl (fun hc6 => ?_) (fun hc6 => ?_)
      · rw [if_neg hc6] at h
        refine zv_ald hB zd165_33 rfl rfl rfl ?_
        refine zv_getr hB zd165_34 rfl ?_
        refine zv_ald hB zd165_37 rfl rfl rfl ?_
        refine zv_getr hB zd165_38 rfl ?_
        obtain ⟨r7, hr7, h⟩ := zi_bind h
        refine zv_cv hB (zv_emq (va2 := [.inr 3, .inr 2]) (F := [.inl f0, .inl f1, .inl f2, .inl f3, .inl f4, .inl f5, .inl f6, .inl f7, .inl f8, .inl f9, .inl f10, .inl f11, .inl f12, .inl f13, .inl f14, .inr 15, .inr 1000, .inr 1000, .inl f18, .inl f19, .inl f20, .inl f21, .inl f22, .inl f23, .inl f24, .inl f25, .inl f26, .inl f27]) (F' := [.inl f0, .inl f1, .inl r7.1, .inl f3, .inl r7.2.1, .inl f5, .inl r7.2.2.1, .inl f7, .inl r7.2.2.2.1, .inl f9, .inl r7.2.2.2.2.1, .inl f11, .inl r7.2.2.2.2.2.1, .inl f13, .inl r7.2.2.2.2.2.2.1, .inr 15, .inr 1000, .inr 1000, .inl f18, .inl f19, .inl f20, .inl f21, .inl f22, .inl f23, .inl f24, .inl f25, .inl f26, .inl f27]) (G := [g0, g1, g2, g3, g4, g5, g6, g7, g8, g9, g10, g11, g12, g13, g14, g15, g16, g17, g18, g19, g20]) (G' := [g0, r7.2.2.2.2.2.2.2.1, g2, r7.2.2.2.2.2.2.2.2.1, g4, r7.2.2.2.2.2.2.2.2.2.1, g6, r7.2.2.2.2.2.2.2.2.2.2.1, g8, r7.2.2.2.2.2.2.2.2.2.2.2, g10, g11, g12, g13, g14, g15, g16, g17, g18, g19, g20]) (ρ := [3, 2, 4, 5, 6, 7, 8, 9, 10, 11, 12, 13]) (φ := [1, 2, 3, 4, 5, 6, 7, 8, 9, 10, 11, 12, 13, 14]) (ψ := [0, 1, 2, 3, 4, 5, 6, 7, 8, 9]) [none, some 0, some 1, some 2, some 3, some 4, some 5, some 6, some 7, some 8, some 9, some 10, some 11, some 12, some 13, none, none, none, none, none, none, none, none, none, none, none, none, none] [some 0, some 1, some 2, some 3, some 4, some 5, some 6, some 7, some 8, some 9, none, none, none, none, none, none, none, none, none, none, none] zyw_Sky_copyFrom zyw_X_fastest zye_X_fastest (by decide +kernel) (zt_Sky_copyFrom hr7) ⟨⟨_, rfl, fun _ => rfl⟩, ⟨_, rfl, fun _ => rfl⟩, ⟨_, rfl, fun _ => rfl⟩, ⟨_, rfl, fun _ => rfl⟩, ⟨_, rfl, fun _ => rfl⟩, ⟨_, rfl, fun _ => rfl⟩, ⟨_, rfl, fun _ => rfl⟩, ⟨_, rfl, fun _ => rfl⟩, ⟨_, rfl, fun _ => rfl⟩, ⟨_, rfl, fun _ => rfl⟩, ⟨_, rfl, fun _ => rfl⟩, ⟨_, rfl, fun _ => rfl⟩, ⟨_, rfl, fun _ => rfl⟩, ⟨_, rfl, fun _ => rfl⟩, trivial⟩ ⟨rfl, rfl, rfl, rfl, rfl, rfl, rfl, rfl, rfl, rfl, trivial⟩ rfl rfl rfl rfl rfl rfl rfl) zd165_41 zxt125 rfl (by decide) (by decide) rfl ?_
        refine zv_ald hB zd165_44 rfl rfl rfl ?_
        refine zv_getr hB zd165_45 rfl ?_
        refine zv_ald hB zd165_48 rfl rfl rfl ?_
        refine zv_getr hB zd165_49 rfl ?_
        refine zv_ald hB zd165_52 rfl rfl rfl ?_
        refine zv_getq hB zd165_53 rfl rfl rfl ?_
        obtain ⟨r8, hr8, h⟩ := zi_bind h
        refine zv_cv hB (zv_emq (va2 := [.inr 14, .inr 3, .inr 15]) (F := [.inl f0, .inl f1, .inl r7.1, .inl f3, .inl r7.2.1, .inl f5, .inl r7.2.2.1, .inl f7, .inl r7.2.2.2.1, .inl f9, .inl r7.2.2.2.2.1, .inl f11, .inl r7.2.2.2.2.2.1, .inl f13, .inl r7.2.2.2.2.2.2.1, .inr 15, .inr 1000, .inr 1000, .inl f18, .inl f19, .inl f20, .inl f21, .inl f22, .inl f23, .inl f24, .inl f25, .inl f26, .inl f27]) (F' := [.inl f0, .inl f1, .inl r7.1, .inl f3, .inl r7.2.1, .inl f5, .inl r7.2.2.1, .inl f7, .inl r7.2.2.2.1, .inl f9, .inl r7.2.2.2.2.1, .inl f11, .inl r7.2.2.2.2.2.1, .inl f13, .inl r7.2.2.2.2.2.2.1, .inr 15, .inr 3, .inr 15, .inl r8.1, .inl f19, .inl f20, .inl f21, .inl f22, .inl f23, .inl f24, .inl f25, .inl f26, .inl f27]) (G := [g0, r7.2.2.2.2.2.2.2.1, g2, r7.2.2.2.2.2.2.2.2.1, g4, r7.2.2.2.2.2.2.2.2.2.1, g6, r7.2.2.2.2.2.2.2.2.2.2.1, g8, r7.2.2.2.2.2.2.2.2.2.2.2, g10, g11, g12, g13, g14, g15, g16, g17, g18, g19, g20]) (G' := [g0, r7.2.2.2.2.2.2.2.1, g2, r7.2.2.2.2.2.2.2.2.1, g4, r7.2.2.2.2.2.2.2.2.2.1, g6, r7.2.2.2.2.2.2.2.2.2.2.1, g8, r7.2.2.2.2.2.2.2.2.2.2.2, r8.2, g11, g12, g13, g14, g15, g16, g17, g18, g19, g20]) (ρ := [14, 3, 15, 16]) (φ := [16, 17, 18]) (ψ := [10]) [none, none, none, none, none, none, none, none, none, none, none, none, none, none, none, none, some 0, some 1, some 2, none, none, none, none, none, none, none, none, none] [none, none, none, none, none, none, none, none, none, none, some 0, none, none, none, none, none, none, none, none, none, none] zyw_View_open zyw_X_fastest zye_X_fastest (by decide +kernel) (zt_View_open hr8) ⟨⟨_, rfl, fun (h : zv_is (.inr 1000)) => (Nat.lt_irrefl 1000 h).elim⟩, ⟨_, rfl, fun (h : zv_is (.inr 1000)) => (Nat.lt_irrefl 1000 h).elim⟩, ⟨_, rfl, fun _ => rfl⟩, trivial⟩ ⟨rfl, trivial⟩ rfl rfl rfl rfl rfl rfl rfl) zd165_56 zxt84 rfl (by decide) (by decide) rfl ?_
        refine zv_ald hB zd165_59 rfl rfl rfl ?_
        refine zv_getr hB zd165_60 rfl ?_
        refine zv_ald hB zd165_63 rfl rfl rfl ?_
        refine zv_getr hB zd165_64 rfl ?_
        refine zv_ald hB zd165_67 rfl rfl rfl ?_
        refine zv_getr hB zd165_68 rfl ?_
        refine zv_ald hB zd165_71 rfl rfl rfl ?_
        refine zv_getr hB zd165_72 rfl ?_
        refine zv_getr hB zd165_75 rfl ?_
        refine zv_ild hB zd165_78 rfl rfl ?_
        obtain ⟨c9, h⟩ := zi_if h
        refine zv_iald hB zd165_79 rfl rfl (zi_ix_ok c9).1 (zi_ix_ok c9).2 (fun _ _ => ?_)
        refine zv_ild hB zd165_80 rfl rfl ?_
        refine zv_ild hB zd165_81 rfl rfl ?_
        obtain ⟨r10, hr10, h⟩ := zi_bind h
        refine zv_cs hB (zv_emq (va2 := [.inl x2, .inl x3]) (F := [.inl f0, .inl f1, .inl r7.1, .inl f3, .inl r7.2.1, .inl f5, .inl r7.2.2.1, .inl f7, .inl r7.2.2.2.1, .inl f9, .inl r7.2.2.2.2.1, .inl f11, .inl r7.2.2.2.2.2.1, .inl f13, .inl r7.2.2.2.2.2.2.1, .inr 15, .inr 3, .inr 15, .inl r8.1, .inl f19, .inl f20, .inl f21, .inl f22, .inl f23, .inl f24, .inl f25, .inl f26, .inl f27]) (F' := [.inl f0, .inl f1, .inl r7.1, .inl f3, .inl r7.2.1, .inl f5, .inl r7.2.2.1, .inl f7, .inl r7.2.2.2.1, .inl f9, .inl r7.2.2.2.2.1, .inl f11, .inl r7.2.2.2.2.2.1, .inl f13, .inl r7.2.2.2.2.2.2.1, .inr 15, .inr 3, .inr 15, .inl r8.1, .inl f19, .inl f20, .inl f21, .inl f22, .inl f23, .inl f24, .inl f25, .inl f26, .inl f27]) (G := [g0, r7.2.2.2.2.2.2.2.1, g2, r7.2.2.2.2.2.2.2.2.1, g4, r7.2.2.2.2.2.2.2.2.2.1, g6, r7.2.2.2.2.2.2.2.2.2.2.1, g8, r7.2.2.2.2.2.2.2.2.2.2.2, r8.2, g11, g12, g13, g14, g15, g16, g17, g18, g19, g20]) (G' := [g0, r7.2.2.2.2.2.2.2.1, g2, r7.2.2.2.2.2.2.2.2.1, g4, r7.2.2.2.2.2.2.2.2.2.1, g6, r7.2.2.2.2.2.2.2.2.2.2.1, g8, r7.2.2.2.2.2.2.2.2.2.2.2, r8.2, g11, g12, g13, g14, g15, g16, g17, g18, g19, g20]) (ρ := []) (φ := []) (ψ := []) [none, none, none, none, none, none, none, none, none, none, none, none, none, none, none, none, none, none, none, none, none, none, none, none, none, none, none, none] [none, none, none, none, none, none, none, none, none, none, none, none, none, none, none, none, none, none, none, none, none] zyw_X_placeOf zyw_X_fastest zye_X_fastest (by decide +kernel) (zt_X_placeOf hr10) trivial trivial rfl rfl rfl rfl rfl rfl rfl) zd165_82 zxt24 rfl (by decide) (by decide) rfl ?_
        refine zv_ild hB zd165_85 rfl rfl ?_
        obtain ⟨r11, hr11, h⟩ := zi_bind h
        refine zv_cv hB (zv_emq (va2 := [.inr 17, .inr 14, .inr 1, .inl (g11 x1), .inl r10, .inl x4]) (F := [.inl f0, .inl f1, .inl r7.1, .inl f3, .inl r7.2.1, .inl f5, .inl r7.2.2.1, .inl f7, .inl r7.2.2.2.1, .inl f9, .inl r7.2.2.2.2.1, .inl f11, .inl r7.2.2.2.2.2.1, .inl f13, .inl r7.2.2.2.2.2.2.1, .inr 15, .inr 3, .inr 15, .inl r8.1, .inl f19, .inl f20, .inl f21, .inl f22, .inl f23, .inl f24, .inl f25, .inl f26, .inl f27]) (F' := [.inl f0, .inl f1, .inl r7.1, .inl f3, .inl r11.2.2.2.1, .inl f5, .inl r11.2.2.2.2.1, .inl f7, .inl r7.2.2.2.1, .inl f9, .inl r7.2.2.2.2.1, .inl f11, .inl r7.2.2.2.2.2.1, .inl f13, .inl r7.2.2.2.2.2.2.1, .inr 15, .inr 3, .inr 15, .inl r11.2.2.2.2.2.1, .inl r11.2.1, .inl r11.2.2.1, .inl f21, .inl r11.2.2.2.2.2.2.1, .inl f23, .inl r11.2.2.2.2.2.2.2.1, .inl f25, .inl r11.2.2.2.2.2.2.2.2.1, .inl r11.2.2.2.2.2.2.2.2.2.1]) (G := [g0, r7.2.2.2.2.2.2.2.1, g2, r7.2.2.2.2.2.2.2.2.1, g4, r7.2.2.2.2.2.2.2.2.2.1, g6, r7.2.2.2.2.2.2.2.2.2.2.1, g8, r7.2.2.2.2.2.2.2.2.2.2.2, r8.2, g11, g12, g13, g14, g15, g16, g17, g18, g19, g20]) (G' := [g0, r11.2.2.2.2.2.2.2.2.2.2.2.2.1, g2, r11.2.2.2.2.2.2.2.2.2.2.2.2.2.1, g4, r7.2.2.2.2.2.2.2.2.2.1, g6, r7.2.2.2.2.2.2.2.2.2.2.1, g8, r7.2.2.2.2.2.2.2.2.2.2.2, r11.2.2.2.2.2.2.2.2.2.2.2.2.2.2.2, g11, r11.2.2.2.2.2.2.2.2.2.2.1, r11.2.2.2.2.2.2.2.2.2.2.2.1, g14, g15, g16, g17, r11.2.2.2.2.2.2.2.2.2.2.2.2.2.2.1, g19, g20]) (ρ := [17, 14, 1, 3, 19, 15, 20, 5, 7, 9, 21, 22, 23, 24, 25, 26, 27, 11, 13, 16]) (φ := [16, 17, 2, 19, 20, 4, 6, 10, 12, 8, 21, 18, 22, 23, 24, 25, 26, 27]) (ψ := [12, 13, 1, 3, 5, 14, 15, 16, 17, 18, 19, 20, 7, 9, 10]) [none, none, some 2, none, some 5, none, some 6, none, some 9, none, some 7, none, some 8, none, none, none, some 0, some 1, some 11, some 3, some 4, some 10, some 12, some 13, some 14, some 15, some 16, some 17] [none, some 2, none, some 3, none, some 4, none, some 12, none, some 13, some 14, none, some 0, some 1, some 5, some 6, some 7, some 8, some 9, some 10, some 11] zyw_Pilot_findFastest zyw_X_fastest zye_X_fastest (by decide +kernel) (zt_Pilot_findFastest hr11) ⟨⟨_, rfl, fun _ => rfl⟩, ⟨_, rfl, fun _ => rfl⟩, ⟨_, rfl, fun _ => rfl⟩, ⟨_, rfl, fun _ => rfl⟩, ⟨_, rfl, fun _ => rfl⟩, ⟨_, rfl, fun _ => rfl⟩, ⟨_, rfl, fun _ => rfl⟩, ⟨_, rfl, fun _ => rfl⟩, ⟨_, rfl, fun _ => rfl⟩, ⟨_, rfl, fun _ => rfl⟩, ⟨_, rfl, fun _ => rfl⟩, ⟨_, rfl, fun _ => rfl⟩, ⟨_, rfl, fun _ => rfl⟩, ⟨_, rfl, fun _ => rfl⟩, ⟨_, rfl, fun _ => rfl⟩, ⟨_, rfl, fun _ => rfl⟩, ⟨_, rfl, fun _ => rfl⟩, ⟨_, rfl, fun _ => rfl⟩, trivial⟩ ⟨rfl, rfl, rfl, rfl, rfl, rfl, rfl, rfl, rfl, rfl, rfl, rfl, rfl, rfl, rfl, trivial⟩ rfl rfl rfl rfl rfl rfl rfl) zd165_87 zxt167 rfl (by decide) (by decide) rfl ?_
        refine zv_zne hB zd165_90 rfl (fun hc12 => ?_) (fun hc12 => ?_)
        · rw [if_neg hc12] at h
          refine zv_ild hB zd165_96 rfl rfl ?_
          refine zv_zne hB zd165_98 rfl (fun hc13 => ?_) (fun hc13 => ?_)
          · rw [if_neg hc13] at h
            refine zv_ald hB zd165_111 rfl rfl rfl ?_
            refine zv_getr hB zd165_112 rfl ?_
            refine zv_getf hB zd165_115 rfl rfl (fun _ _ => ?_)
            have hw := Option.some.inj h
            refine zv_wk hB (L' := [.inr 0, .inl x1, .inl x2, .inl x3, .inl x4, .inl x5]) (F' := [.inl f0, .inl f1, .inl r7.1, .inl f3, .inl r11.2.2.2.1, .inl f5, .inl r11.2.2.2.2.1, .inl f7, .inl r7.2.2.2.1, .inl f9, .inl r7.2.2.2.2.1, .inl f11, .inl r7.2.2.2.2.2.1, .inl f13, .inl r7.2.2.2.2.2.2.1, .inr 15, .inr 1000, .inr 1000, .inl r11.2.2.2.2.2.1, .inl r11.2.1, .inl r11.2.2.1, .inl f21, .inl r11.2.2.2.2.2.2.1, .inl f23, .inl r11.2.2.2.2.2.2.2.1, .inl f25, .inl r11.2.2.2.2.2.2.2.2.1, .inl r11.2.2.2.2.2.2.2.2.2.1]) ⟨fun _ => rfl, fun _ => rfl, fun _ => rfl, fun _ => rfl, fun _ => rfl, fun _ => rfl, trivial⟩ ⟨fun _ => rfl, fun _ => rfl, fun _ => rfl, fun _ => rfl, fun _ => rfl, fun _ => rfl, fun _ => rfl, fun _ => rfl, fun _ => rfl, fun _ => rfl, fun _ => rfl, fun _ => rfl, fun _ => rfl, fun _ => rfl, fun _ => rfl, fun _ => rfl, fun (h : zv_is (.inr 1000)) => (Nat.lt_irrefl 1000 h).elim, fun (h : zv_is (.inr 1000)) => (Nat.lt_irrefl 1000 h).elim, fun _ => rfl, fun _ => rfl, fun _ => rfl, fun _ => rfl, fun _ => rfl, fun _ => rfl, fun _ => rfl, fun _ => rfl, fun _ => rfl, fun _ => rfl, trivial⟩ ?_
            subst hw
            exact hret _ _ _ _ _ zd165_118 (by trivial) ⟨rfl, rfl, rfl⟩
          · rw [if_pos hc13] at h
            refine zv_ald hB zd165_101 rfl rfl rfl ?_
            refine zv_getr hB zd165_102 rfl ?_
            refine zv_getf hB zd165_105 rfl rfl (fun _ _ => ?_)
            refine zv_goto hB zd165_108 rfl ?_
            have hw := Option.some.inj h
            refine zv_wk hB (L' := [.inr 0, .inl x1, .inl x2, .inl x3, .inl x4, .inl x5]) (F' := [.inl f0, .inl f1, .inl r7.1, .inl f3, .inl r11.2.2.2.1, .inl f5, .inl r11.2.2.2.2.1, .inl f7, .inl r7.2.2.2.1, .inl f9, .inl r7.2.2.2.2.1, .inl f11, .inl r7.2.2.2.2.2.1, .inl f13, .inl r7.2.2.2.2.2.2.1, .inr 15, .inr 1000, .inr 1000, .inl r11.2.2.2.2.2.1, .inl r11.2.1, .inl r11.2.2.1, .inl f21, .inl r11.2.2.2.2.2.2.1, .inl f23, .inl r11.2.2.2.2.2.2.2.1, .inl f25, .inl r11.2.2.2.2.2.2.2.2.1, .inl r11.2.2.2.2.2.2.2.2.2.1]) ⟨fun _ => rfl, fun _ => rfl, fun _ => rfl, fun _ => rfl, fun _ => rfl, fun _ => rfl, trivial⟩ ⟨fun _ => rfl, fun _ => rfl, fun _ => rfl, fun _ => rfl, fun _ => rfl, fun _ => rfl, fun _ => rfl, fun _ => rfl, fun _ => rfl, fun _ => rfl, fun _ => rfl, fun _ => rfl, fun _ => rfl, fun _ => rfl, fun _ => rfl, fun _ => rfl, fun (h : zv_is (.inr 1000)) => (Nat.lt_irrefl 1000 h).elim, fun (h : zv_is (.inr 1000)) => (Nat.lt_irrefl 1000 h).elim, fun _ => rfl, fun _ => rfl, fun _ => rfl, fun _ => rfl, fun _ => rfl, fun _ => rfl, fun _ => rfl, fun _ => rfl, fun _ => rfl, fun _ => rfl, trivial⟩ ?_
            subst hw
            exact hret _ _ _ _ _ zd165_118 (by trivial) ⟨rfl, rfl, rfl⟩
        · rw [if_pos hc12] at h
          refine zv_con hB zd165_93 rfl ?_
          have hw := Option.some.inj h
          refine zv_wk hB (L' := [.inr 0, .inl x1, .inl x2, .inl x3, .inl x4, .inl x5]) (F' := [.inl f0, .inl f1, .inl r7.1, .inl f3, .inl r11.2.2.2.1, .inl f5, .inl r11.2.2.2.2.1, .inl f7, .inl r7.2.2.2.1, .inl f9, .inl r7.2.2.2.2.1, .inl f11, .inl r7.2.2.2.2.2.1, .inl f13, .inl r7.2.2.2.2.2.2.1, .inr 15, .inr 1000, .inr 1000, .inl r11.2.2.2.2.2.1, .inl r11.2.1, .inl r11.2.2.1, .inl f21, .inl r11.2.2.2.2.2.2.1, .inl f23, .inl r11.2.2.2.2.2.2.2.1, .inl f25, .inl r11.2.2.2.2.2.2.2.2.1, .inl r11.2.2.2.2.2.2.2.2.2.1]) ⟨fun _ => rfl, fun _ => rfl, fun _ => rfl, fun _ => rfl, fun _ => rfl, fun _ => rfl, trivial⟩ ⟨fun _ => rfl, fun _ => rfl, fun _ => rfl, fun _ => rfl, fun _ => rfl, fun _ => rfl, fun _ => rfl, fun _ => rfl, fun _ => rfl, fun _ => rfl, fun _ => rfl, fun _ => rfl, fun _ => rfl, fun _ => rfl, fun _ => rfl, fun _ => rfl, fun (h : zv_is (.inr 1000)) => (Nat.lt_irrefl 1000 h).elim, fun (h : zv_is (.inr 1000)) => (Nat.lt_irrefl 1000 h).elim, fun _ => rfl, fun _ => rfl, fun _ => rfl, fun _ => rfl, fun _ => rfl, fun _ => rfl, fun _ => rfl, fun _ => rfl, fun _ => rfl, fun _ => rfl, trivial⟩ ?_
          subst hw
          exact hret _ _ _ _ _ zd165_95 (by trivial) ⟨rfl, rfl, rfl⟩
      · rw [if_pos hc6] at h
        refine zv_con hB zd165_31 rfl ?_
        have hw := Option.some.inj h
        subst hw
        exact hret _ _ _ _ _ zd165_32 (by trivial) ⟨rfl, rfl, rfl⟩
end
section
/-! Methods as functions, and that they do what these do. -/
/-! Pilot_isBroughtByLower (LStarTales$Sky;I)Z -/
-- names: 0 Pilot('arg', 0), 1 Sky('arg', 1), 2 (0, 24)(0, 9, 4)
-- fields: f0 = 1.told_; arrays: g0 = 2; out: [('ret', None)]
abbrev zy_Pilot_isBroughtByLower : zNL := (3, [(0, 9), (1, 1)], [(1, 1, 0, 0)], [(0, 9, 4, 2)], [(2, 0, 24, 0)])
theorem zyw_Pilot_isBroughtByLower : zv_wf zy_Pilot_isBroughtByLower = true := by decide +kernel
theorem zye_Pilot_isBroughtByLower : zv_ek2 zy_Pilot_isBroughtByLower = true := by decide +kernel
def zf_Pilot_isBroughtByLower_l0_b (x2 : Int) (f0 : Int) (g0 : (Int → Int)) (rec : Int → Option (((Unit) ⊕ (Int)))) (x3 : Int) : Option (((Unit) ⊕ (Int))) := if x3 < x2 then ((zf_Sky_hasStar x3 f0).bind fun r2 => (if r2 = 0 then (rec (zi_w (x3 + 1))) else (cond (zi_ix x3 24) (cond (zi_ix x2 24) (if (g0 x3) = (g0 x2) then (some (.inr 1)) else (rec (zi_w (x3 + 1)))) none) none))) else (some (.inl ()))
def zf_Pilot_isBroughtByLower_l0 (x2 : Int) (f0 : Int) (g0 : (Int → Int)) : Nat → Int → Option (((Unit) ⊕ (Int)))
  | 0, _ => none
  | n + 1, x3 => zf_Pilot_isBroughtByLower_l0_b x2 f0 g0 (zf_Pilot_isBroughtByLower_l0 x2 f0 g0 n) x3
def zf_Pilot_isBroughtByLower (x2 : Int) (f0 : Int) (g0 : (Int → Int)) : Option (Int) := (zf_Pilot_isBroughtByLower_l0 x2 f0 g0 zi_fu 0).bind fun q7 => Sum.elim (fun e8 => (some 0)) (fun w9 => some w9) q7
theorem zd173_0 : decode zxm173.2.1 0 = .ok (.iconst 0, 1) := by decide +kernel
theorem zd173_1 : decode zxm173.2.1 1 = .ok (.istore_n 3, 1) := by decide +kernel
theorem zd173_2 : decode zxm173.2.1 2 = .ok (.iload_n 3, 1) := by decide +kernel
theorem zd173_3 : decode zxm173.2.1 3 = .ok (.iload_n 2, 1) := by decide +kernel
theorem zd173_4 : decode zxm173.2.1 4 = .ok (.if_icmp .ge 34, 3) := by decide +kernel
theorem zd173_7 : decode zxm173.2.1 7 = .ok (.aload_n 1, 1) := by decide +kernel
theorem zd173_8 : decode zxm173.2.1 8 = .ok (.iload_n 3, 1) := by decide +kernel
theorem zd173_9 : decode zxm173.2.1 9 = .ok (.invokevirtual 120, 3) := by decide +kernel
theorem zd173_12 : decode zxm173.2.1 12 = .ok (.ifCond .eq 20, 3) := by decide +kernel
theorem zd173_15 : decode zxm173.2.1 15 = .ok (.aload_n 0, 1) := by decide +kernel
theorem zd173_16 : decode zxm173.2.1 16 = .ok (.getfield 24, 3) := by decide +kernel
theorem zd173_19 : decode zxm173.2.1 19 = .ok (.iload_n 3, 1) := by decide +kernel
theorem zd173_20 : decode zxm173.2.1 20 = .ok (.iaload, 1) := by decide +kernel
theorem zd173_21 : decode zxm173.2.1 21 = .ok (.aload_n 0, 1) := by decide +kernel
theorem zd173_22 : decode zxm173.2.1 22 = .ok (.getfield 24, 3) := by decide +kernel
theorem zd173_25 : decode zxm173.2.1 25 = .ok (.iload_n 2, 1) := by decide +kernel
theorem zd173_26 : decode zxm173.2.1 26 = .ok (.iaload, 1) := by decide +kernel
theorem zd173_27 : decode zxm173.2.1 27 = .ok (.if_icmp .ne 5, 3) := by decide +kernel
theorem zd173_30 : decode zxm173.2.1 30 = .ok (.iconst 1, 1) := by decide +kernel
theorem zd173_31 : decode zxm173.2.1 31 = .ok (.ireturn, 1) := by decide +kernel
theorem zd173_32 : decode zxm173.2.1 32 = .ok (.iinc 3 1, 3) := by decide +kernel
theorem zd173_35 : decode zxm173.2.1 35 = .ok (.goto (-33), 3) := by decide +kernel
theorem zd173_38 : decode zxm173.2.1 38 = .ok (.iconst 0, 1) := by decide +kernel
theorem zd173_39 : decode zxm173.2.1 39 = .ok (.ireturn, 1) := by decide +kernel
theorem zt_Pilot_isBroughtByLower {x2 : Int} {f0 : Int} {g0 : (Int → Int)} {o : Int} (h : zf_Pilot_isBroughtByLower x2 f0 g0 = some o) : zv_Fn z_TB z_cl z_KX zy_Pilot_isBroughtByLower zxm173 (1, 60) [.inr 0, .inr 1, .inl x2] [.inl f0] [g0] (some o) [.inl f0] [g0] := zv_meth (K := (z_KF6, z_KC6, z_KL6, z_KT6, [], [], [], none)) (FT := z_FT) (MT := z_MT) (n := 3) zxp173 (z_ks6 _ (fun _ h => List.mem_cons_of_mem _ h) _ _ _ _ (fun j r h _ => by cases h)) (fun _ _ => zs_KX_p) zyw_Pilot_isBroughtByLower (fun va F G h => by obtain ⟨rfl, _⟩ := h; rfl) (fun va F G h => by obtain ⟨rfl, _⟩ := h; rfl) rfl fun good va F G hB hret hvret hP => by
  obtain ⟨rfl, rfl, rfl⟩ := hP
  have l0 : ∀ (n : Nat) (x2 : Int) (x3 : Int) (q : ((Unit) ⊕ (Int))), zf_Pilot_isBroughtByLower_l0 x2 f0 g0 n x3 = some q → (Sum.elim (fun e : Unit => good 38 [.inr 1000, .inr 1000, .inr 1000, .inr 1000] [] [.inl f0] [g0]) (fun w : Int => w = o) q) → good 2 [.inr 0, .inr 1, .inl x2, .inl x3] [] [.inl f0] [g0] := by
    intro n
    induction n with
    | zero => intro x2 x3 q h; exact absurd (show none = some q from h) (fun h => by cases h)
    | succ n ih =>
      intro x2 x3 q h hK
      replace h : zf_Pilot_isBroughtByLower_l0_b x2 f0 g0 (zf_Pilot_isBroughtByLower_l0 x2 f0 g0 n) x3 = some q := h
      unfold zf_Pilot_isBroughtByLower_l0_b at h
      refine zv_ild hB zd173_2 rfl rfl ?_
      refine zv_ild hB zd173_3 rfl rfl ?_
      refine zv_cge hB zd173_4 rfl (fun hc1 => ?_) (fun hc1 => ?_)
      · rw [if_neg (Int.not_lt.mpr hc1)] at h
        have hq := Option.some.inj h
        subst hq
        refine zv_wk hB (L' := [.inr 1000, .inr 1000, .inr 1000, .inr 1000]) (F' := [.inl f0]) ⟨fun (h : zv_is (.inr 1000)) => (Nat.lt_irrefl 1000 h).elim, fun (h : zv_is (.inr 1000)) => (Nat.lt_irrefl 1000 h).elim, fun (h : zv_is (.inr 1000)) => (Nat.lt_irrefl 1000 h).elim, fun (h : zv_is (.inr 1000)) => (Nat.lt_irrefl 1000 h).elim, trivial⟩ ⟨fun _ => rfl, trivial⟩ ?_
        exact hK
      · rw [if_pos hc1] at h
        refine zv_ald hB zd173_7 rfl rfl rfl ?_
        refine zv_ild hB zd173_8 rfl rfl ?_
        obtain ⟨r2, hr2, h⟩ := zi_bind h
        refine zv_cv hB (zv_emq (va2 := [.inr 1, .inl x3]) (F := [.inl f0]) (F' := [.inl f0]) (G := [g0]) (G' := [g0]) (ρ := [1]) (φ := [0]) (ψ := []) [some 0] [none] zyw_Sky_hasStar zyw_Pilot_isBroughtByLower zye_Pilot_isBroughtByLower (by decide +kernel) (zt_Sky_hasStar hr2) ⟨⟨_, rfl, fun _ => rfl⟩, trivial⟩ trivial rfl rfl rfl rfl rfl rfl rfl) zd173_9 zxt18 rfl (by decide) (by decide) rfl ?_
        refine zv_zeq hB zd173_12 rfl (fun hc3 => ?_) (fun hc3 => ?_)
        · rw [if_pos hc3] at h
          refine zv_iincw hB zd173_32 rfl rfl ?_
          refine zv_goto hB zd173_35 rfl ?_
          exact ih _ _ q h hK
        · rw [if_neg hc3] at h
          refine zv_ald hB zd173_15 rfl rfl rfl ?_
          refine zv_getr hB zd173_16 rfl ?_
          refine zv_ild hB zd173_19 rfl rfl ?_
          obtain ⟨c4, h⟩ := zi_if h
          refine zv_iald hB zd173_20 rfl rfl (zi_ix_ok c4).1 (zi_ix_ok c4).2 (fun _ _ => ?_)
          refine zv_ald hB zd173_21 rfl rfl rfl ?_
          refine zv_getr hB zd173_22 rfl ?_
          refine zv_ild hB zd173_25 rfl rfl ?_
          obtain ⟨c5, h⟩ := zi_if h
          refine zv_iald hB zd173_26 rfl rfl (zi_ix_ok c5).1 (zi_ix_ok c5).2 (fun _ _ => ?_)
          refine zv_cne hB zd173_27 rfl (fun hc6 => ?_) (fun hc6 => ?_)
          · rw [if_neg hc6] at h
            refine zv_iincw hB zd173_32 rfl rfl ?_
            refine zv_goto hB zd173_35 rfl ?_
            exact ih _ _ q h hK
          · rw [if_pos hc6] at h
            refine zv_con hB zd173_30 rfl ?_
            have hw : 1 = o := zi_rk (Option.some.inj h) hK
            subst hw
            exact hret _ _ _ _ _ zd173_31 (by constructor <;> decide) ⟨rfl, rfl, rfl⟩
  unfold zf_Pilot_isBroughtByLower at h
  refine zv_con hB zd173_0 rfl ?_
  refine zv_ist hB zd173_1 rfl rfl rfl ?_
  obtain ⟨q7, hq7, h⟩ := zi_bind h
  refine l0 _ _ _ q7 hq7 ?_
  rcases q7 with e8 | w9
  · replace h := zi_sl h
    show good 38 [.inr 1000, .inr 1000, .inr 1000, .inr 1000] [] [.inl f0] [g0]
    refine zv_con hB zd173_38 rfl ?_
    have hw := Option.some.inj h
    subst hw
    exact hret _ _ _ _ _ zd173_39 (by constructor <;> decide) ⟨rfl, rfl, rfl⟩
  · exact Option.some.inj h
/-! Pilot_endFirstLegs (LStarTales$Sky;I)V -/
-- names: 0 Pilot('arg', 0), 1 Sky('arg', 1), 2 (0, 24)(0, 9, 4), 3 (0, 264)(0, 9, 5), 4 (0, 264)(0, 9, 6), 5 (0, 264)(0, 9, 7)
-- fields: f0 = 1.told_, f1 = 0.legs_; arrays: g0 = 2, g1 = 3, g2 = 4, g3 = 5; out: [('f', 1), ('g', 1), ('g', 2), ('g', 3)]
abbrev zy_Pilot_endFirstLegs : zNL := (6, [(0, 9), (1, 1)], [(1, 1, 0, 0), (0, 9, 9, 1)], [(0, 9, 4, 2), (0, 9, 5, 3), (0, 9, 6, 4), (0, 9, 7, 5)], [(2, 0, 24, 0), (3, 0, 264, 1), (4, 0, 264, 2), (5, 0, 264, 3)])
theorem zyw_Pilot_endFirstLegs : zv_wf zy_Pilot_endFirstLegs = true := by decide +kernel
theorem zye_Pilot_endFirstLegs : zv_ek2 zy_Pilot_endFirstLegs = true := by decide +kernel
def zf_Pilot_endFirstLegs_l0_b (x2 : Int) (f0 : Int) (g0 : (Int → Int)) (rec : Int → Int → (Int → Int) → (Int → Int) → (Int → Int) → Option (Int × (Int → Int) × (Int → Int) × (Int → Int))) (x3 : Int) (f1 : Int) (g1 : (Int → Int)) (g2 : (Int → Int)) (g3 : (Int → Int)) : Option (Int × (Int → Int) × (Int → Int) × (Int → Int)) := if x3 < 24 then ((zf_Sky_hasStar x3 f0).bind fun r2 => (if r2 = 0 then (rec (zi_w (x3 + 1)) f1 g1 g2 g3) else ((zf_Pilot_isBroughtByLower x3 f0 g0).bind fun r4 => (if r4 = 0 then (if f1 < 264 then (cond (zi_ix f1 264) (cond (zi_ix x3 24) (rec (zi_w (x3 + 1)) (zi_w (f1 + 1)) (zv_up g1 f1 x3) (zv_up g2 f1 x2) (zv_up g3 f1 (g0 x3))) none) none) else (rec (zi_w (x3 + 1)) f1 g1 g2 g3)) else (rec (zi_w (x3 + 1)) f1 g1 g2 g3))))) else (some (f1, g1, g2, g3))
def zf_Pilot_endFirstLegs_l0 (x2 : Int) (f0 : Int) (g0 : (Int → Int)) : Nat → Int → Int → (Int → Int) → (Int → Int) → (Int → Int) → Option (Int × (Int → Int) × (Int → Int) × (Int → Int))
  | 0, _, _, _, _, _ => none
  | n + 1, x3, f1, g1, g2, g3 => zf_Pilot_endFirstLegs_l0_b x2 f0 g0 (zf_Pilot_endFirstLegs_l0 x2 f0 g0 n) x3 f1 g1 g2 g3
def zf_Pilot_endFirstLegs (x2 : Int) (f0 : Int) (f1 : Int) (g0 : (Int → Int)) (g1 : (Int → Int)) (g2 : (Int → Int)) (g3 : (Int → Int)) : Option (Int × (Int → Int) × (Int → Int) × (Int → Int)) := (zf_Pilot_endFirstLegs_l0 x2 f0 g0 zi_fu 0 f1 g1 g2 g3).bind fun q9 => (some (q9.1, q9.2.1, q9.2.2.1, q9.2.2.2))
theorem zd172_0 : decode zxm172.2.1 0 = .ok (.iconst 0, 1) := by decide +kernel
theorem zd172_1 : decode zxm172.2.1 1 = .ok (.istore_n 3, 1) := by decide +kernel
theorem zd172_2 : decode zxm172.2.1 2 = .ok (.iload_n 3, 1) := by decide +kernel
theorem zd172_3 : decode zxm172.2.1 3 = .ok (.bipush 24, 2) := by decide +kernel
theorem zd172_5 : decode zxm172.2.1 5 = .ok (.if_icmp .ge 81, 3) := by decide +kernel
theorem zd172_8 : decode zxm172.2.1 8 = .ok (.aload_n 1, 1) := by decide +kernel
theorem zd172_9 : decode zxm172.2.1 9 = .ok (.iload_n 3, 1) := by decide +kernel
theorem zd172_10 : decode zxm172.2.1 10 = .ok (.invokevirtual 120, 3) := by decide +kernel
theorem zd172_13 : decode zxm172.2.1 13 = .ok (.ifCond .eq 67, 3) := by decide +kernel
theorem zd172_16 : decode zxm172.2.1 16 = .ok (.aload_n 0, 1) := by decide +kernel
theorem zd172_17 : decode zxm172.2.1 17 = .ok (.aload_n 1, 1) := by decide +kernel
theorem zd172_18 : decode zxm172.2.1 18 = .ok (.iload_n 3, 1) := by decide +kernel
theorem zd172_19 : decode zxm172.2.1 19 = .ok (.invokevirtual 154, 3) := by decide +kernel
theorem zd172_22 : decode zxm172.2.1 22 = .ok (.ifCond .ne 58, 3) := by decide +kernel
theorem zd172_25 : decode zxm172.2.1 25 = .ok (.aload_n 0, 1) := by decide +kernel
theorem zd172_26 : decode zxm172.2.1 26 = .ok (.getfield 40, 3) := by decide +kernel
theorem zd172_29 : decode zxm172.2.1 29 = .ok (.sipush 264, 3) := by decide +kernel
theorem zd172_32 : decode zxm172.2.1 32 = .ok (.if_icmp .ge 48, 3) := by decide +kernel
theorem zd172_35 : decode zxm172.2.1 35 = .ok (.aload_n 0, 1) := by decide +kernel
theorem zd172_36 : decode zxm172.2.1 36 = .ok (.getfield 28, 3) := by decide +kernel
theorem zd172_39 : decode zxm172.2.1 39 = .ok (.aload_n 0, 1) := by decide +kernel
theorem zd172_40 : decode zxm172.2.1 40 = .ok (.getfield 40, 3) := by decide +kernel
theorem zd172_43 : decode zxm172.2.1 43 = .ok (.iload_n 3, 1) := by decide +kernel
theorem zd172_44 : decode zxm172.2.1 44 = .ok (.iastore, 1) := by decide +kernel
theorem zd172_45 : decode zxm172.2.1 45 = .ok (.aload_n 0, 1) := by decide +kernel
theorem zd172_46 : decode zxm172.2.1 46 = .ok (.getfield 31, 3) := by decide +kernel
theorem zd172_49 : decode zxm172.2.1 49 = .ok (.aload_n 0, 1) := by decide +kernel
theorem zd172_50 : decode zxm172.2.1 50 = .ok (.getfield 40, 3) := by decide +kernel
theorem zd172_53 : decode zxm172.2.1 53 = .ok (.iload_n 2, 1) := by decide +kernel
theorem zd172_54 : decode zxm172.2.1 54 = .ok (.iastore, 1) := by decide +kernel
theorem zd172_55 : decode zxm172.2.1 55 = .ok (.aload_n 0, 1) := by decide +kernel
theorem zd172_56 : decode zxm172.2.1 56 = .ok (.getfield 34, 3) := by decide +kernel
theorem zd172_59 : decode zxm172.2.1 59 = .ok (.aload_n 0, 1) := by decide +kernel
theorem zd172_60 : decode zxm172.2.1 60 = .ok (.getfield 40, 3) := by decide +kernel
theorem zd172_63 : decode zxm172.2.1 63 = .ok (.aload_n 0, 1) := by decide +kernel
theorem zd172_64 : decode zxm172.2.1 64 = .ok (.getfield 24, 3) := by decide +kernel
theorem zd172_67 : decode zxm172.2.1 67 = .ok (.iload_n 3, 1) := by decide +kernel
theorem zd172_68 : decode zxm172.2.1 68 = .ok (.iaload, 1) := by decide +kernel
theorem zd172_69 : decode zxm172.2.1 69 = .ok (.iastore, 1) := by decide +kernel
theorem zd172_70 : decode zxm172.2.1 70 = .ok (.aload_n 0, 1) := by decide +kernel
theorem zd172_71 : decode zxm172.2.1 71 = .ok (.dup, 1) := by decide +kernel
theorem zd172_72 : decode zxm172.2.1 72 = .ok (.getfield 40, 3) := by decide +kernel
theorem zd172_75 : decode zxm172.2.1 75 = .ok (.iconst 1, 1) := by decide +kernel
theorem zd172_76 : decode zxm172.2.1 76 = .ok (.iadd, 1) := by decide +kernel
theorem zd172_77 : decode zxm172.2.1 77 = .ok (.putfield 40, 3) := by decide +kernel
theorem zd172_80 : decode zxm172.2.1 80 = .ok (.iinc 3 1, 3) := by decide +kernel
theorem zd172_83 : decode zxm172.2.1 83 = .ok (.goto (-81), 3) := by decide +kernel
theorem zd172_86 : decode zxm172.2.1 86 = .ok (.return_, 1) := by decide +kernel
theorem zt_Pilot_endFirstLegs {x2 : Int} {f0 : Int} {f1 : Int} {g0 : (Int → Int)} {g1 : (Int → Int)} {g2 : (Int → Int)} {g3 : (Int → Int)} {o : Int × (Int → Int) × (Int → Int) × (Int → Int)} (h : zf_Pilot_endFirstLegs x2 f0 f1 g0 g1 g2 g3 = some o) : zv_Fn z_TB z_cl z_KX zy_Pilot_endFirstLegs zxm172 (2, 120) [.inr 0, .inr 1, .inl x2] [.inl f0, .inl f1] [g0, g1, g2, g3] none [.inl f0, .inl o.1] [g0, o.2.1, o.2.2.1, o.2.2.2] := zv_meth (K := (z_KF6, z_KC6, z_KL6, z_KT6, [], [], [], none)) (FT := z_FT) (MT := z_MT) (n := 3) zxp172 (z_ks6 _ (fun _ h => List.mem_cons_of_mem _ h) _ _ _ _ (fun j r h _ => by cases h)) (fun _ _ => zs_KX_p) zyw_Pilot_endFirstLegs (fun va F G h => by obtain ⟨rfl, _⟩ := h; rfl) (fun va F G h => by obtain ⟨rfl, _⟩ := h; rfl) rfl fun good va F G hB hret hvret hP => by
  obtain ⟨rfl, rfl, rfl⟩ := hP
  have l0 : ∀ (n : Nat) (x2 : Int) (x3 : Int) (f1 : Int) (g1 : (Int → Int)) (g2 : (Int → Int)) (g3 : (Int → Int)) (q : Int × (Int → Int) × (Int → Int) × (Int → Int)), zf_Pilot_endFirstLegs_l0 x2 f0 g0 n x3 f1 g1 g2 g3 = some q → (good 86 [.inr 1000, .inr 1000, .inr 1000, .inr 1000] [] [.inl f0, .inl q.1] [g0, q.2.1, q.2.2.1, q.2.2.2]) → good 2 [.inr 0, .inr 1, .inl x2, .inl x3] [] [.inl f0, .inl f1] [g0, g1, g2, g3] := by
    intro n
    induction n with
    | zero => intro x2 x3 f1 g1 g2 g3 q h; exact absurd (show none = some q from h) (fun h => by cases h)
    | succ n ih =>
      intro x2 x3 f1 g1 g2 g3 q h hK
      replace h : zf_Pilot_endFirstLegs_l0_b x2 f0 g0 (zf_Pilot_endFirstLegs_l0 x2 f0 g0 n) x3 f1 g1 g2 g3 = some q := h
      unfold zf_Pilot_endFirstLegs_l0_b at h
      refine zv_ild hB zd172_2 rfl rfl ?_
      refine zv_con hB zd172_3 rfl ?_
      refine zv_cge hB zd172_5 rfl (fun hc1 => ?_) (fun hc1 => ?_)
      · rw [if_neg (Int.not_lt.mpr hc1)] at h
        have hq := Option.some.inj h
        subst hq
        refine zv_wk hB (L' := [.inr 1000, .inr 1000, .inr 1000, .inr 1000]) (F' := [.inl f0, .inl f1]) ⟨fun (h : zv_is (.inr 1000)) => (Nat.lt_irrefl 1000 h).elim, fun (h : zv_is (.inr 1000)) => (Nat.lt_irrefl 1000 h).elim, fun (h : zv_is (.inr 1000)) => (Nat.lt_irrefl 1000 h).elim, fun (h : zv_is (.inr 1000)) => (Nat.lt_irrefl 1000 h).elim, trivial⟩ ⟨fun _ => rfl, fun _ => rfl, trivial⟩ ?_
        exact hK
      · rw [if_pos hc1] at h
        refine zv_ald hB zd172_8 rfl rfl rfl ?_
        refine zv_ild hB zd172_9 rfl rfl ?_
        obtain ⟨r2, hr2, h⟩ := zi_bind h
        refine zv_cv hB (zv_emq (va2 := [.inr 1, .inl x3]) (F := [.inl f0, .inl f1]) (F' := [.inl f0, .inl f1]) (G := [g0, g1, g2, g3]) (G' := [g0, g1, g2, g3]) (ρ := [1]) (φ := [0]) (ψ := []) [some 0, none] [none, none, none, none] zyw_Sky_hasStar zyw_Pilot_endFirstLegs zye_Pilot_endFirstLegs (by decide +kernel) (zt_Sky_hasStar hr2) ⟨⟨_, rfl, fun _ => rfl⟩, trivial⟩ trivial rfl rfl rfl rfl rfl rfl rfl) zd172_10 zxt18 rfl (by decide) (by decide) rfl ?_
        refine zv_zeq hB zd172_13 rfl (fun hc3 => ?_) (fun hc3 => ?_)
        · rw [if_pos hc3] at h
          refine zv_iincw hB zd172_80 rfl rfl ?_
          refine zv_goto hB zd172_83 rfl ?_
          exact ih _ _ _ _ _ _ q h hK
        · rw [if_neg hc3] at h
          refine zv_ald hB zd172_16 rfl rfl rfl ?_
          refine zv_ald hB zd172_17 rfl rfl rfl ?_
          refine zv_ild hB zd172_18 rfl rfl ?_
          obtain ⟨r4, hr4, h⟩ := zi_bind h
          refine zv_cv hB (zv_emq (va2 := [.inr 0, .inr 1, .inl x3]) (F := [.inl f0, .inl f1]) (F' := [.inl f0, .inl f1]) (G := [g0, g1, g2, g3]) (G' := [g0, g1, g2, g3]) (ρ := [0, 1, 2]) (φ := [0]) (ψ := [0]) [some 0, none] [some 0, none, none, none] zyw_Pilot_isBroughtByLower zyw_Pilot_endFirstLegs zye_Pilot_endFirstLegs (by decide +kernel) (zt_Pilot_isBroughtByLower hr4) ⟨⟨_, rfl, fun _ => rfl⟩, trivial⟩ ⟨rfl, trivial⟩ rfl rfl rfl rfl rfl rfl rfl) zd172_19 zxt173 rfl (by decide) (by decide) rfl ?_
          refine zv_zne hB zd172_22 rfl (fun hc5 => ?_) (fun hc5 => ?_)
          · rw [if_neg hc5] at h
            refine zv_iincw hB zd172_80 rfl rfl ?_
            refine zv_goto hB zd172_83 rfl ?_
            exact ih _ _ _ _ _ _ q h hK
          · rw [if_pos hc5] at h
            refine zv_ald hB zd172_25 rfl rfl rfl ?_
            refine zv_getf hB zd172_26 rfl rfl (fun _ _ => ?_)
            refine zv_con hB zd172_29 rfl ?_
            refine zv_cge hB zd172_32 rfl (fun hc6 => ?_) (fun hc6 => ?_)
            · rw [if_neg (Int.not_lt.mpr hc6)] at h
              refine zv_iincw hB zd172_80 rfl rfl ?_
              refine zv_goto hB zd172_83 rfl ?_
              exact ih _ _ _ _ _ _ q h hK
            · rw [if_pos hc6] at h
              refine zv_ald hB zd172_35 rfl rfl rfl ?_
              refine zv_getr hB zd172_36 rfl ?_
              refine zv_ald hB zd172_39 rfl rfl rfl ?_
              refine zv_getf hB zd172_40 rfl rfl (fun _ _ => ?_)
              refine zv_ild hB zd172_43 rfl rfl ?_
              obtain ⟨c7, h⟩ := zi_if h
              refine zv_iast hB zd172_44 rfl rfl (zi_ix_ok c7).1 (zi_ix_ok c7).2 ?_
              refine zv_ald hB zd172_45 rfl rfl rfl ?_
              refine zv_getr hB zd172_46 rfl ?_
              refine zv_ald hB zd172_49 rfl rfl rfl ?_
              refine zv_getf hB zd172_50 rfl rfl (fun _ _ => ?_)
              refine zv_ild hB zd172_53 rfl rfl ?_
              refine zv_iast hB zd172_54 rfl rfl (zi_ix_ok c7).1 (zi_ix_ok c7).2 ?_
              refine zv_ald hB zd172_55 rfl rfl rfl ?_
              refine zv_getr hB zd172_56 rfl ?_
              refine zv_ald hB zd172_59 rfl rfl rfl ?_
              refine zv_getf hB zd172_60 rfl rfl (fun _ _ => ?_)
              refine zv_ald hB zd172_63 rfl rfl rfl ?_
              refine zv_getr hB zd172_64 rfl ?_
              refine zv_ild hB zd172_67 rfl rfl ?_
              obtain ⟨c8, h⟩ := zi_if h
              refine zv_iald hB zd172_68 rfl rfl (zi_ix_ok c8).1 (zi_ix_ok c8).2 (fun _ _ => ?_)
              refine zv_iast hB zd172_69 rfl rfl (zi_ix_ok c7).1 (zi_ix_ok c7).2 ?_
              refine zv_ald hB zd172_70 rfl rfl rfl ?_
              refine zv_dup hB zd172_71 rfl ?_
              refine zv_getf hB zd172_72 rfl rfl (fun _ _ => ?_)
              refine zv_con hB zd172_75 rfl ?_
              refine zv_addw hB zd172_76 ?_
              refine zv_putf hB zd172_77 rfl rfl (fun h => by cases h) rfl ?_
              refine zv_iincw hB zd172_80 rfl rfl ?_
              refine zv_goto hB zd172_83 rfl ?_
              exact ih _ _ _ _ _ _ q h hK
  unfold zf_Pilot_endFirstLegs at h
  refine zv_con hB zd172_0 rfl ?_
  refine zv_ist hB zd172_1 rfl rfl rfl ?_
  obtain ⟨q9, hq9, h⟩ := zi_bind h
  refine l0 _ _ _ _ _ _ _ q9 hq9 ?_
  show good 86 [.inr 1000, .inr 1000, .inr 1000, .inr 1000] [] [.inl f0, .inl q9.1] [g0, q9.2.1, q9.2.2.1, q9.2.2.2]
  have hw := Option.some.inj h
  subst hw
  exact hvret _ _ _ _ zd172_86 trivial ⟨rfl, rfl, rfl⟩
end
