/-! Methods as functions, and that they do what these do. -/
/-! Law_landJump (I)V -/
-- names: 0 Law('arg', 0), 1 (0, 200)(0, 4, 1)
-- fields: f0 = 0.steps_; arrays: g0 = 1; out: [('g', 0)]
abbrev zy_Law_landJump : zNL := (2, [(0, 4)], [(0, 4, 2, 0)], [(0, 4, 1, 1)], [(1, 0, 200, 0)])
theorem zyw_Law_landJump : zv_wf zy_Law_landJump = true := by decide +kernel
theorem zye_Law_landJump : zv_ek2 zy_Law_landJump = true := by decide +kernel
def zf_Law_landJump (x1 : Int) (f0 : Int) (g0 : (Int → Int)) : Option ((Int → Int)) := if x1 < 0 then (some g0) else (if x1 < 200 then (cond (zi_ix x1 200) (some (zv_up g0 x1 f0)) none) else (some g0))
theorem zd73_0 : decode zxm73.2.1 0 = .ok (.iload_n 1, 1) := by decide +kernel
theorem zd73_1 : decode zxm73.2.1 1 = .ok (.ifCond .lt 20, 3) := by decide +kernel
theorem zd73_4 : decode zxm73.2.1 4 = .ok (.iload_n 1, 1) := by decide +kernel
theorem zd73_5 : decode zxm73.2.1 5 = .ok (.sipush 200, 3) := by decide +kernel
theorem zd73_8 : decode zxm73.2.1 8 = .ok (.if_icmp .ge 13, 3) := by decide +kernel
theorem zd73_11 : decode zxm73.2.1 11 = .ok (.aload_n 0, 1) := by decide +kernel
theorem zd73_12 : decode zxm73.2.1 12 = .ok (.getfield 13, 3) := by decide +kernel
theorem zd73_15 : decode zxm73.2.1 15 = .ok (.iload_n 1, 1) := by decide +kernel
theorem zd73_16 : decode zxm73.2.1 16 = .ok (.aload_n 0, 1) := by decide +kernel
theorem zd73_17 : decode zxm73.2.1 17 = .ok (.getfield 16, 3) := by decide +kernel
theorem zd73_20 : decode zxm73.2.1 20 = .ok (.iastore, 1) := by decide +kernel
theorem zd73_21 : decode zxm73.2.1 21 = .ok (.return_, 1) := by decide +kernel
theorem zt_Law_landJump {x1 : Int} {f0 : Int} {g0 : (Int → Int)} {o : (Int → Int)} (h : zf_Law_landJump x1 f0 g0 = some o) : zv_Fn z_TB z_cl z_KX zy_Law_landJump zxm73 (0, 0) [.inr 0, .inl x1] [.inl f0] [g0] none [.inl f0] [o] := zv_meth (K := (z_KF2, z_KC2, z_KL2, z_KT2, [], [], [], none)) (FT := z_FT) (MT := z_MT) (n := 2) zxp73 (z_ks2 _ (fun _ h => List.mem_cons_of_mem _ h) _ _ _ _ (fun j r h _ => by cases h)) (fun _ _ => zs_KX_p) zyw_Law_landJump (fun va F G h => by obtain ⟨rfl, _⟩ := h; rfl) (fun va F G h => by obtain ⟨rfl, _⟩ := h; rfl) rfl fun good va F G hB hret hvret hP => by
  obtain ⟨rfl, rfl, rfl⟩ := hP
  unfold zf_Law_landJump at h
  refine zv_ild hB zd73_0 rfl rfl ?_
  refine zv_zlt hB zd73_1 rfl (fun hc1 => ?_) (fun hc1 => ?_)
  · rw [if_pos hc1] at h
    have hw := Option.some.inj h
    subst hw
    exact hvret _ _ _ _ zd73_21 trivial ⟨rfl, rfl, rfl⟩
  · rw [if_neg (Int.not_lt.mpr hc1)] at h
    refine zv_ild hB zd73_4 rfl rfl ?_
    refine zv_con hB zd73_5 rfl ?_
    refine zv_cge hB zd73_8 rfl (fun hc2 => ?_) (fun hc2 => ?_)
    · rw [if_neg (Int.not_lt.mpr hc2)] at h
      have hw := Option.some.inj h
      subst hw
      exact hvret _ _ _ _ zd73_21 trivial ⟨rfl, rfl, rfl⟩
    · rw [if_pos hc2] at h
      refine zv_ald hB zd73_11 rfl rfl rfl ?_
      refine zv_getr hB zd73_12 rfl ?_
      refine zv_ild hB zd73_15 rfl rfl ?_
      refine zv_ald hB zd73_16 rfl rfl rfl ?_
      refine zv_getf hB zd73_17 rfl rfl (fun _ _ => ?_)
      obtain ⟨c3, h⟩ := zi_if h
      refine zv_iast hB zd73_20 rfl rfl (zi_ix_ok c3).1 (zi_ix_ok c3).2 ?_
      have hw := Option.some.inj h
      subst hw
      exact hvret _ _ _ _ zd73_21 trivial ⟨rfl, rfl, rfl⟩
/-! LawReader_readComparison (I)V -/
-- names: 0 LawReader('arg', 0), 1 (0, 220)(0, 5, 0), 2 Law(0, 5, 4), 3 (0, 200)(2, 4, 0), 4 (0, 200)(2, 4, 1)
-- fields: f0 = 0.law_, f1 = 0.fault_, f2 = 0.at_, f3 = 0.length_, f4 = 2.steps_; arrays: g0 = 1, g1 = 3, g2 = 4; out: [('f', 1), ('f', 2), ('f', 4), ('g', 1), ('g', 2)]
abbrev zy_LawReader_readComparison : zNL := (5, [(0, 5), (2, 4)], [(0, 5, 4, 0), (0, 5, 3, 1), (0, 5, 2, 2), (0, 5, 1, 3), (2, 4, 2, 4)], [(0, 5, 0, 1), (2, 4, 0, 3), (2, 4, 1, 4)], [(1, 0, 220, 0), (3, 0, 200, 1), (4, 0, 200, 2)])
theorem zyw_LawReader_readComparison : zv_wf zy_LawReader_readComparison = true := by decide +kernel
theorem zye_LawReader_readComparison : zv_ek2 zy_LawReader_readComparison = true := by decide +kernel
def zf_LawReader_readComparison (x1 : Int) (f1 : Int) (f2 : Int) (f3 : Int) (f4 : Int) (g0 : (Int → Int)) (g1 : (Int → Int)) (g2 : (Int → Int)) : Option (Int × Int × Int × (Int → Int) × (Int → Int)) := (zf_LawReader_readSum x1 f1 f2 f3 f4 g0 g1 g2).bind fun r1 => (if r1.1 = 0 then ((zf_LawReader_peek r1.2.1 f3 g0).bind fun r3 => (if r3 = 60 then ((zf_LawReader_readSum x1 r1.1 (zi_w (r1.2.1 + 1)) f3 r1.2.2.1 g0 r1.2.2.2.1 r1.2.2.2.2).bind fun r5 => ((zf_Law_addStep 10 0 r5.2.2.1 r5.2.2.2.1 r5.2.2.2.2).bind fun r7 => (some (r5.1, r5.2.1, r7.2.1, r7.2.2.1, r7.2.2.2)))) else (if r3 = 62 then ((zf_LawReader_readSum x1 r1.1 (zi_w (r1.2.1 + 1)) f3 r1.2.2.1 g0 r1.2.2.2.1 r1.2.2.2.2).bind fun r9 => ((zf_Law_addStep 11 0 r9.2.2.1 r9.2.2.2.1 r9.2.2.2.2).bind fun r12 => (some (r9.1, r9.2.1, r12.2.1, r12.2.2.1, r12.2.2.2)))) else (if r3 = 61 then ((zf_LawReader_readSum x1 r1.1 (zi_w (r1.2.1 + 1)) f3 r1.2.2.1 g0 r1.2.2.2.1 r1.2.2.2.2).bind fun r14 => ((zf_Law_addStep 12 0 r14.2.2.1 r14.2.2.2.1 r14.2.2.2.2).bind fun r17 => (some (r14.1, r14.2.1, r17.2.1, r17.2.2.1, r17.2.2.2)))) else ((zf_LawReader_fail 1 r1.1 r1.2.1).bind fun r18 => (some (r18, r1.2.1, r1.2.2.1, r1.2.2.2.1, r1.2.2.2.2))))))) else (some (r1.1, r1.2.1, r1.2.2.1, r1.2.2.2.1, r1.2.2.2.2)))
theorem zd72_0 : decode zxm72.2.1 0 = .ok (.aload_n 0, 1) := by decide +kernel
theorem zd72_1 : decode zxm72.2.1 1 = .ok (.iload_n 1, 1) := by decide +kernel
theorem zd72_2 : decode zxm72.2.1 2 = .ok (.invokevirtual 63, 3) := by decide +kernel
theorem zd72_5 : decode zxm72.2.1 5 = .ok (.aload_n 0, 1) := by decide +kernel
theorem zd72_6 : decode zxm72.2.1 6 = .ok (.getfield 18, 3) := by decide +kernel
theorem zd72_9 : decode zxm72.2.1 9 = .ok (.ifCond .eq 4, 3) := by decide +kernel
theorem zd72_12 : decode zxm72.2.1 12 = .ok (.return_, 1) := by decide +kernel
theorem zd72_13 : decode zxm72.2.1 13 = .ok (.aload_n 0, 1) := by decide +kernel
theorem zd72_14 : decode zxm72.2.1 14 = .ok (.invokevirtual 53, 3) := by decide +kernel
theorem zd72_17 : decode zxm72.2.1 17 = .ok (.istore_n 2, 1) := by decide +kernel
theorem zd72_18 : decode zxm72.2.1 18 = .ok (.iload_n 2, 1) := by decide +kernel
theorem zd72_19 : decode zxm72.2.1 19 = .ok (.bipush 60, 2) := by decide +kernel
theorem zd72_21 : decode zxm72.2.1 21 = .ok (.if_icmp .eq 21, 3) := by decide +kernel
theorem zd72_24 : decode zxm72.2.1 24 = .ok (.iload_n 2, 1) := by decide +kernel
theorem zd72_25 : decode zxm72.2.1 25 = .ok (.bipush 62, 2) := by decide +kernel
theorem zd72_27 : decode zxm72.2.1 27 = .ok (.if_icmp .eq 15, 3) := by decide +kernel
theorem zd72_30 : decode zxm72.2.1 30 = .ok (.iload_n 2, 1) := by decide +kernel
theorem zd72_31 : decode zxm72.2.1 31 = .ok (.bipush 61, 2) := by decide +kernel
theorem zd72_33 : decode zxm72.2.1 33 = .ok (.if_icmp .eq 9, 3) := by decide +kernel
theorem zd72_36 : decode zxm72.2.1 36 = .ok (.aload_n 0, 1) := by decide +kernel
theorem zd72_37 : decode zxm72.2.1 37 = .ok (.iconst 1, 1) := by decide +kernel
theorem zd72_38 : decode zxm72.2.1 38 = .ok (.invokevirtual 57, 3) := by decide +kernel
theorem zd72_41 : decode zxm72.2.1 41 = .ok (.return_, 1) := by decide +kernel
theorem zd72_42 : decode zxm72.2.1 42 = .ok (.aload_n 0, 1) := by decide +kernel
theorem zd72_43 : decode zxm72.2.1 43 = .ok (.dup, 1) := by decide +kernel
theorem zd72_44 : decode zxm72.2.1 44 = .ok (.getfield 15, 3) := by decide +kernel
theorem zd72_47 : decode zxm72.2.1 47 = .ok (.iconst 1, 1) := by decide +kernel
theorem zd72_48 : decode zxm72.2.1 48 = .ok (.iadd, 1) := by decide +kernel
theorem zd72_49 : decode zxm72.2.1 49 = .ok (.putfield 15, 3) := by decide +kernel
theorem zd72_52 : decode zxm72.2.1 52 = .ok (.aload_n 0, 1) := by decide +kernel
theorem zd72_53 : decode zxm72.2.1 53 = .ok (.iload_n 1, 1) := by decide +kernel
theorem zd72_54 : decode zxm72.2.1 54 = .ok (.invokevirtual 63, 3) := by decide +kernel
theorem zd72_57 : decode zxm72.2.1 57 = .ok (.aload_n 0, 1) := by decide +kernel
theorem zd72_58 : decode zxm72.2.1 58 = .ok (.getfield 25, 3) := by decide +kernel
theorem zd72_61 : decode zxm72.2.1 61 = .ok (.iload_n 2, 1) := by decide +kernel
theorem zd72_62 : decode zxm72.2.1 62 = .ok (.bipush 60, 2) := by decide +kernel
theorem zd72_64 : decode zxm72.2.1 64 = .ok (.if_icmp .ne 8, 3) := by decide +kernel
theorem zd72_67 : decode zxm72.2.1 67 = .ok (.bipush 10, 2) := by decide +kernel
theorem zd72_69 : decode zxm72.2.1 69 = .ok (.goto 16, 3) := by decide +kernel
theorem zd72_72 : decode zxm72.2.1 72 = .ok (.iload_n 2, 1) := by decide +kernel
theorem zd72_73 : decode zxm72.2.1 73 = .ok (.bipush 62, 2) := by decide +kernel
theorem zd72_75 : decode zxm72.2.1 75 = .ok (.if_icmp .ne 8, 3) := by decide +kernel
theorem zd72_78 : decode zxm72.2.1 78 = .ok (.bipush 11, 2) := by decide +kernel
theorem zd72_80 : decode zxm72.2.1 80 = .ok (.goto 5, 3) := by decide +kernel
theorem zd72_83 : decode zxm72.2.1 83 = .ok (.bipush 12, 2) := by decide +kernel
theorem zd72_85 : decode zxm72.2.1 85 = .ok (.iconst 0, 1) := by decide +kernel
theorem zd72_86 : decode zxm72.2.1 86 = .ok (.invokevirtual 76, 3) := by decide +kernel
theorem zd72_89 : decode zxm72.2.1 89 = .ok (.pop, 1) := by decide +kernel
theorem zd72_90 : decode zxm72.2.1 90 = .ok (.return_, 1) := by decide +kernel
theorem zt_LawReader_readComparison {x1 : Int} {f1 : Int} {f2 : Int} {f3 : Int} {f4 : Int} {g0 : (Int → Int)} {g1 : (Int → Int)} {g2 : (Int → Int)} {o : Int × Int × Int × (Int → Int) × (Int → Int)} (h : zf_LawReader_readComparison x1 f1 f2 f3 f4 g0 g1 g2 = some o) : zv_Fn z_TB z_cl z_KX zy_LawReader_readComparison zxm72 (37, 2220) [.inr 0, .inl x1] [.inr 2, .inl f1, .inl f2, .inl f3, .inl f4] [g0, g1, g2] none [.inr 2, .inl o.1, .inl o.2.1, .inl f3, .inl o.2.2.1] [g0, o.2.2.2.1, o.2.2.2.2] := zv_meth (K := (z_KF3, z_KC3, z_KL3, z_KT3, [], [], [], none)) (FT := z_FT) (MT := z_MT) (n := 2) zxp72 (z_ks3 _ (fun _ h => List.mem_cons_of_mem _ h) _ _ _ _ (fun j r h _ => by cases h)) (fun _ _ => zs_KX_p) zyw_LawReader_readComparison (fun va F G h => by obtain ⟨rfl, _⟩ := h; rfl) (fun va F G h => by obtain ⟨rfl, _⟩ := h; rfl) rfl fun good va F G hB hret hvret hP => by
  obtain ⟨rfl, rfl, rfl⟩ := hP
  unfold zf_LawReader_readComparison at h
  refine zv_ald hB zd72_0 rfl rfl rfl ?_
  refine zv_ild hB zd72_1 rfl rfl ?_
  obtain ⟨r1, hr1, h⟩ := zi_bind h
  refine zv_cv hB (zv_emq (va2 := [.inr 0, .inl x1]) (F := [.inr 2, .inl f1, .inl f2, .inl f3, .inl f4]) (F' := [.inr 2, .inl r1.1, .inl r1.2.1, .inl f3, .inl r1.2.2.1]) (G := [g0, g1, g2]) (G' := [g0, r1.2.2.2.1, r1.2.2.2.2]) (ρ := [0, 1, 2, 3, 4]) (φ := [1, 2, 3, 0, 4]) (ψ := [0, 1, 2]) [some 3, some 0, some 1, some 2, some 4] [some 0, some 1, some 2] zyw_LawReader_readSum zyw_LawReader_readComparison zye_LawReader_readComparison (by decide +kernel) (zt_LawReader_readSum hr1) ⟨⟨_, rfl, fun _ => rfl⟩, ⟨_, rfl, fun _ => rfl⟩, ⟨_, rfl, fun _ => rfl⟩, ⟨_, rfl, fun _ => rfl⟩, ⟨_, rfl, fun _ => rfl⟩, trivial⟩ ⟨rfl, rfl, rfl, trivial⟩ rfl rfl rfl rfl rfl rfl rfl) zd72_2 zxt43 rfl (by decide) (by decide) rfl ?_
  refine zv_ald hB zd72_5 rfl rfl rfl ?_
  refine zv_getf hB zd72_6 rfl rfl (fun _ _ => ?_)
  refine zv_zeq hB zd72_9 rfl (fun hc2 => ?_) (fun hc2 => ?_)
  · rw [if_pos hc2] at h
    refine zv_ald hB zd72_13 rfl rfl rfl ?_
    obtain ⟨r3, hr3, h⟩ := zi_bind h
    refine zv_cv hB (zv_emq (va2 := [.inr 0]) (F := [.inr 2, .inl r1.1, .inl r1.2.1, .inl f3, .inl r1.2.2.1]) (F' := [.inr 2, .inl r1.1, .inl r1.2.1, .inl f3, .inl r1.2.2.1]) (G := [g0, r1.2.2.2.1, r1.2.2.2.2]) (G' := [g0, r1.2.2.2.1, r1.2.2.2.2]) (ρ := [0, 1]) (φ := [2, 3]) (ψ := [0]) [none, none, some 0, some 1, none] [some 0, none, none] zyw_LawReader_peek zyw_LawReader_readComparison zye_LawReader_readComparison (by decide +kernel) (zt_LawReader_peek hr3) ⟨⟨_, rfl, fun _ => rfl⟩, ⟨_, rfl, fun _ => rfl⟩, trivial⟩ ⟨rfl, trivial⟩ rfl rfl rfl rfl rfl rfl rfl) zd72_14 zxt40 rfl (by decide) (by decide) rfl ?_
    refine zv_ist hB zd72_17 rfl rfl rfl ?_
    refine zv_ild hB zd72_18 rfl rfl ?_
    refine zv_con hB zd72_19 rfl ?_
    refine zv_ceq hB zd72_21 rfl (fun hc4 => ?_) (fun hc4 => ?_)
    · rw [if_pos hc4] at h
      refine zv_ald hB zd72_42 rfl rfl rfl ?_
      refine zv_dup hB zd72_43 rfl ?_
      refine zv_getf hB zd72_44 rfl rfl (fun _ _ => ?_)
      refine zv_con hB zd72_47 rfl ?_
      refine zv_addw hB zd72_48 ?_
      refine zv_putf hB zd72_49 rfl rfl (fun h => by cases h) rfl ?_
      refine zv_ald hB zd72_52 rfl rfl rfl ?_
      refine zv_ild hB zd72_53 rfl rfl ?_
      obtain ⟨r5, hr5, h⟩ := zi_bind h
      refine zv_cv hB (zv_emq (va2 := [.inr 0, .inl x1]) (F := [.inr 2, .inl r1.1, .inl (zi_w (r1.2.1 + 1)), .inl f3, .inl r1.2.2.1]) (F' := [.inr 2, .inl r5.1, .inl r5.2.1, .inl f3, .inl r5.2.2.1]) (G := [g0, r1.2.2.2.1, r1.2.2.2.2]) (G' := [g0, r5.2.2.2.1, r5.2.2.2.2]) (ρ := [0, 1, 2, 3, 4]) (φ := [1, 2, 3, 0, 4]) (ψ := [0, 1, 2]) [some 3, some 0, some 1, some 2, some 4] [some 0, some 1, some 2] zyw_LawReader_readSum zyw_LawReader_readComparison zye_LawReader_readComparison (by decide +kernel) (zt_LawReader_readSum hr5) ⟨⟨_, rfl, fun _ => rfl⟩, ⟨_, rfl, fun _ => rfl⟩, ⟨_, rfl, fun _ => rfl⟩, ⟨_, rfl, fun _ => rfl⟩, ⟨_, rfl, fun _ => rfl⟩, trivial⟩ ⟨rfl, rfl, rfl, trivial⟩ rfl rfl rfl rfl rfl rfl rfl) zd72_54 zxt43 rfl (by decide) (by decide) rfl ?_
      refine zv_ald hB zd72_57 rfl rfl rfl ?_
      refine zv_getq hB zd72_58 rfl rfl rfl ?_
      refine zv_ild hB zd72_61 rfl rfl ?_
      refine zv_con hB zd72_62 rfl ?_
      refine zv_cne hB zd72_64 rfl (fun hc => absurd hc (by omega)) (fun _ => ?_)
      refine zv_con hB zd72_67 rfl ?_
      refine zv_goto hB zd72_69 rfl ?_
      refine zv_con hB zd72_85 rfl ?_
      obtain ⟨r7, hr7, h⟩ := zi_bind h
      refine zv_cv hB (zv_emq (va2 := [.inr 2, .inl 10, .inl 0]) (F := [.inr 2, .inl r5.1, .inl r5.2.1, .inl f3, .inl r5.2.2.1]) (F' := [.inr 2, .inl r5.1, .inl r5.2.1, .inl f3, .inl r7.2.1]) (G := [g0, r5.2.2.2.1, r5.2.2.2.2]) (G' := [g0, r7.2.2.1, r7.2.2.2]) (ρ := [2, 3, 4]) (φ := [4]) (ψ := [1, 2]) [none, none, none, none, some 0] [none, some 0, some 1] zyw_Law_addStep zyw_LawReader_readComparison zye_LawReader_readComparison (by decide +kernel) (zt_Law_addStep hr7) ⟨⟨_, rfl, fun _ => rfl⟩, trivial⟩ ⟨rfl, rfl, trivial⟩ rfl rfl rfl rfl rfl rfl rfl) zd72_86 zxt49 rfl (by decide) (by decide) rfl ?_
      refine zv_pop hB zd72_89 rfl ?_
      have hw := Option.some.inj h
      subst hw
      exact hvret _ _ _ _ zd72_90 trivial ⟨rfl, rfl, rfl⟩
    · rw [if_neg hc4] at h
      refine zv_ild hB zd72_24 rfl rfl ?_
      refine zv_con hB zd72_25 rfl ?_
      refine zv_ceq hB zd72_27 rfl (fun hc8 => ?_) (fun hc8 => ?_)
      · rw [if_pos hc8] at h
        refine zv_ald hB zd72_42 rfl rfl rfl ?_
        refine zv_dup hB zd72_43 rfl ?_
        refine zv_getf hB zd72_44 rfl rfl (fun _ _ => ?_)
        refine zv_con hB zd72_47 rfl ?_
        refine zv_addw hB zd72_48 ?_
        refine zv_putf hB zd72_49 rfl rfl (fun h => by cases h) rfl ?_
        refine zv_ald hB zd72_52 rfl rfl rfl ?_
        refine zv_ild hB zd72_53 rfl rfl ?_
        obtain ⟨r9, hr9, h⟩ := zi_bind h
        refine zv_cv hB (zv_emq (va2 := [.inr 0, .inl x1]) (F := [.inr 2, .inl r1.1, .inl (zi_w (r1.2.1 + 1)), .inl f3, .inl r1.2.2.1]) (F' := [.inr 2, .inl r9.1, .inl r9.2.1, .inl f3, .inl r9.2.2.1]) (G := [g0, r1.2.2.2.1, r1.2.2.2.2]) (G' := [g0, r9.2.2.2.1, r9.2.2.2.2]) (ρ := [0, 1, 2, 3, 4]) (φ := [1, 2, 3, 0, 4]) (ψ := [0, 1, 2]) [some 3, some 0, some 1, some 2, some 4] [some 0, some 1, some 2] zyw_LawReader_readSum zyw_LawReader_readComparison zye_LawReader_readComparison (by decide +kernel) (zt_LawReader_readSum hr9) ⟨⟨_, rfl, fun _ => rfl⟩, ⟨_, rfl, fun _ => rfl⟩, ⟨_, rfl, fun _ => rfl⟩, ⟨_, rfl, fun _ => rfl⟩, ⟨_, rfl, fun _ => rfl⟩, trivial⟩ ⟨rfl, rfl, rfl, trivial⟩ rfl rfl rfl rfl rfl rfl rfl) zd72_54 zxt43 rfl (by decide) (by decide) rfl ?_
        refine zv_ald hB zd72_57 rfl rfl rfl ?_
        refine zv_getq hB zd72_58 rfl rfl rfl ?_
        refine zv_ild hB zd72_61 rfl rfl ?_
        refine zv_con hB zd72_62 rfl ?_
        refine zv_cne hB zd72_64 rfl (fun _ => ?_) (fun hc => absurd hc (by omega))
        refine zv_ild hB zd72_72 rfl rfl ?_
        refine zv_con hB zd72_73 rfl ?_
        refine zv_cne hB zd72_75 rfl (fun hc => absurd hc (by omega)) (fun _ => ?_)
        refine zv_con hB zd72_78 rfl ?_
        refine zv_goto hB zd72_80 rfl ?_
        refine zv_con hB zd72_85 rfl ?_
        obtain ⟨r12, hr12, h⟩ := zi_bind h
        refine zv_cv hB (zv_emq (va2 := [.inr 2, .inl 11, .inl 0]) (F := [.inr 2, .inl r9.1, .inl r9.2.1, .inl f3, .inl r9.2.2.1]) (F' := [.inr 2, .inl r9.1, .inl r9.2.1, .inl f3, .inl r12.2.1]) (G := [g0, r9.2.2.2.1, r9.2.2.2.2]) (G' := [g0, r12.2.2.1, r12.2.2.2]) (ρ := [2, 3, 4]) (φ := [4]) (ψ := [1, 2]) [none, none, none, none, some 0] [none, some 0, some 1] zyw_Law_addStep zyw_LawReader_readComparison zye_LawReader_readComparison (by decide +kernel) (zt_Law_addStep hr12) ⟨⟨_, rfl, fun _ => rfl⟩, trivial⟩ ⟨rfl, rfl, trivial⟩ rfl rfl rfl rfl rfl rfl rfl) zd72_86 zxt49 rfl (by decide) (by decide) rfl ?_
        refine zv_pop hB zd72_89 rfl ?_
        have hw := Option.some.inj h
        subst hw
        exact hvret _ _ _ _ zd72_90 trivial ⟨rfl, rfl, rfl⟩
      · rw [if_neg hc8] at h
        refine zv_ild hB zd72_30 rfl rfl ?_
        refine zv_con hB zd72_31 rfl ?_
        refine zv_ceq hB zd72_33 rfl (fun hc13 => ?_) (fun hc13 => ?_)
        · rw [if_pos hc13] at h
          refine zv_ald hB zd72_42 rfl rfl rfl ?_
          refine zv_dup hB zd72_43 rfl ?_
          refine zv_getf hB zd72_44 rfl rfl (fun _ _ => ?_)
          refine zv_con hB zd72_47 rfl ?_
          refine zv_addw hB zd72_48 ?_
          refine zv_putf hB zd72_49 rfl rfl (fun h => by cases h) rfl ?_
          refine zv_ald hB zd72_52 rfl rfl rfl ?_
          refine zv_ild hB zd72_53 rfl rfl ?_
          obtain ⟨r14, hr14, h⟩ := zi_bind h
          refine zv_cv hB (zv_emq (va2 := [.inr 0, .inl x1]) (F := [.inr 2, .inl r1.1, .inl (zi_w (r1.2.1 + 1)), .inl f3, .inl r1.2.2.1]) (F' := [.inr 2, .inl r14.1, .inl r14.2.1, .inl f3, .inl r14.2.2.1]) (G := [g0, r1.2.2.2.1, r1.2.2.2.2]) (G' := [g0, r14.2.2.2.1, r14.2.2.2.2]) (ρ := [0, 1, 2, 3, 4]) (φ := [1, 2, 3, 0, 4]) (ψ := [0, 1, 2]) [some 3, some 0, some 1, some 2, some 4] [some 0, some 1, some 2] zyw_LawReader_readSum zyw_LawReader_readComparison zye_LawReader_readComparison (by decide +kernel) (zt_LawReader_readSum hr14) ⟨⟨_, rfl, fun _ => rfl⟩, ⟨_, rfl, fun _ => rfl⟩, ⟨_, rfl, fun _ => rfl⟩, ⟨_, rfl, fun _ => rfl⟩, ⟨_, rfl, fun _ => rfl⟩, trivial⟩ ⟨rfl, rfl, rfl, trivial⟩ rfl rfl rfl rfl rfl rfl rfl) zd72_54 zxt43 rfl (by decide) (by decide) rfl ?_
          refine zv_ald hB zd72_57 rfl rfl rfl ?_
          refine zv_getq hB zd72_58 rfl rfl rfl ?_
          refine zv_ild hB zd72_61 rfl rfl ?_
          refine zv_con hB zd72_62 rfl ?_
          refine zv_cne hB zd72_64 rfl (fun _ => ?_) (fun hc => absurd hc (by omega))
          refine zv_ild hB zd72_72 rfl rfl ?_
          refine zv_con hB zd72_73 rfl ?_
          refine zv_cne hB zd72_75 rfl (fun _ => ?_) (fun hc => absurd hc (by omega))
          refine zv_con hB zd72_83 rfl ?_
          refine zv_con hB zd72_85 rfl ?_
          obtain ⟨r17, hr17, h⟩ := zi_bind h
          refine zv_cv hB (zv_emq (va2 := [.inr 2, .inl 12, .inl 0]) (F := [.inr 2, .inl r14.1, .inl r14.2.1, .inl f3, .inl r14.2.2.1]) (F' := [.inr 2, .inl r14.1, .inl r14.2.1, .inl f3, .inl r17.2.1]) (G := [g0, r14.2.2.2.1, r14.2.2.2.2]) (G' := [g0, r17.2.2.1, r17.2.2.2]) (ρ := [2, 3, 4]) (φ := [4]) (ψ := [1, 2]) [none, none, none, none, some 0] [none, some 0, some 1] zyw_Law_addStep zyw_LawReader_readComparison zye_LawReader_readComparison (by decide +kernel) (zt_Law_addStep hr17) ⟨⟨_, rfl, fun _ => rfl⟩, trivial⟩ ⟨rfl, rfl, trivial⟩ rfl rfl rfl rfl rfl rfl rfl) zd72_86 zxt49 rfl (by decide) (by decide) rfl ?_
          refine zv_pop hB zd72_89 rfl ?_
          have hw := Option.some.inj h
          subst hw
          exact hvret _ _ _ _ zd72_90 trivial ⟨rfl, rfl, rfl⟩
        · rw [if_neg hc13] at h
          refine zv_ald hB zd72_36 rfl rfl rfl ?_
          refine zv_con hB zd72_37 rfl ?_
          obtain ⟨r18, hr18, h⟩ := zi_bind h
          refine zv_cv hB (zv_emq (va2 := [.inr 0, .inl 1]) (F := [.inr 2, .inl r1.1, .inl r1.2.1, .inl f3, .inl r1.2.2.1]) (F' := [.inr 2, .inl r18, .inl r1.2.1, .inl f3, .inl r1.2.2.1]) (G := [g0, r1.2.2.2.1, r1.2.2.2.2]) (G' := [g0, r1.2.2.2.1, r1.2.2.2.2]) (ρ := [0]) (φ := [1, 2]) (ψ := []) [none, some 0, some 1, none, none] [none, none, none] zyw_LawReader_fail zyw_LawReader_readComparison zye_LawReader_readComparison (by decide +kernel) (zt_LawReader_fail hr18) ⟨⟨_, rfl, fun _ => rfl⟩, ⟨_, rfl, fun _ => rfl⟩, trivial⟩ trivial rfl rfl rfl rfl rfl rfl rfl) zd72_38 zxt41 rfl (by decide) (by decide) rfl ?_
          have hw := Option.some.inj h
          subst hw
          exact hvret _ _ _ _ zd72_41 trivial ⟨rfl, rfl, rfl⟩
  · rw [if_neg hc2] at h
    have hw := Option.some.inj h
    subst hw
    exact hvret _ _ _ _ zd72_12 trivial ⟨rfl, rfl, rfl⟩
