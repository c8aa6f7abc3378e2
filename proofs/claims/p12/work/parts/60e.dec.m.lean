/-! 60e.dec, 60f.dec, 60g.dec, 60h.dec -/
section
/-! Methods as functions, and that they do what these do. -/
/-! Law_landJump (I)V -/
-- names: 0 Law('arg', 0), 1 (0, 200)(0, 4, 1)
-- fields: f0 = 0.steps_; arrays: g0 = 1; out: [('g', 0)]
abbrev zy_Law_landJump : zNL := (2, [(0, 4)], [(0, 4, 2, 0)], [(0, 4, 1, 1)], [(1, 0, 200, 0)])
theorem zyw_Law_landJump : zv_wf zy_Law_landJump = true := by decide +kernel
theorem zye_Law_landJump : zv_ek2 zy_Law_landJump = true := by decide +kernel
def zf_Law_landJump (x1 : Int) (f0 : Int) (g0 : (Int → Int)) : Option ((Int → Int)) := if x1 < 0 then (some g0) else (if x1 < 200 then (cond (zi_ix x1 200) (some (zv_up g0 x1 f0)) none) else (some g0))
theorem zd73_0 : decode zxm73.2.1 0 = .ok (.iload_n 1, 1) := by decide +kernel
theorem zd73_1 : decode zxm73.2.1 1 = .ok (.ifCond .lt 20, 3) := by decide +kernel
theorem zd73_4 : decode zxm73.2.1 4 = .ok (.iload_n 1, 1) := by decide +kernel
theorem zd73_5 : decode zxm73.2.1 5 = .ok (.sipush 200, 3) := by decide +kernel
theorem zd73_8 : decode zxm73.2.1 8 = .ok (.if_icmp .ge 13, 3) := by decide +kernel
theorem zd73_11 : decode zxm73.2.1 11 = .ok (.aload_n 0, 1) := by decide +kernel
theorem zd73_12 : decode zxm73.2.1 12 = .ok (.getfield 13, 3) := by decide +kernel
theorem zd73_15 : decode zxm73.2.1 15 = .ok (.iload_n 1, 1) := by decide +kernel
theorem zd73_16 : decode zxm73.2.1 16 = .ok (.aload_n 0, 1) := by decide +kernel
theorem zd73_17 : decode zxm73.2.1 17 = .ok (.getfield 16, 3) := by decide +kernel
theorem zd73_20 : decode zxm73.2.1 20 = .ok (.iastore, 1) := by decide +kernel
theorem zd73_21 : decode zxm73.2.1 21 = .ok (.return_, 1) := by decide +kernel
theorem zt_Law_landJump {x1 : Int} {f0 : Int} {g0 : (Int → Int)} {o : (Int → Int)} (h : zf_Law_landJump x1 f0 g0 = some o) : zv_Fn z_TB z_cl z_KX zy_Law_landJump zxm73 (0, 0) [.inr 0, .inl x1] [.inl f0] [g0] none [.inl f0] [o] := zv_meth (K := (z_KF2, z_KC2, z_KL2, z_KT2, [], [], [], none)) (FT := z_FT) (MT := z_MT) (n := 2) zxp73 (z_ks2 _ (fun _ h => List.mem_cons_of_mem _ h) _ _ _ _ (fun j r h _ => by cases h)) (fun _ _ => zs_KX_p) zyw_Law_landJump (fun va F G h => by obtain ⟨rfl, _⟩ := h; rfl) (fun va F G h => by obtain ⟨rfl, _⟩ := h; rfl) rfl fun good va F G hB hret hvret hP => by
  obtain ⟨rfl, rfl, rfl⟩ := hP
  unfold zf_Law_landJump at h
  refine zv_ild hB zd73_0 rfl rfl ?_
  refine zv_zlt hB zd73_1 rfl (fun hc1 => ?_) (fun hc1 => ?_)
  · rw [if_pos hc1] at h
    have hw := Option.some.inj h
    subst hw
    exact hvret _ _ _ _ zd73_21 trivial ⟨rfl, rfl, rfl⟩
  · rw [if_neg (Int.not_lt.mpr hc1)] at h
    refine zv_ild hB zd73_4 rfl rfl ?_
    refine zv_con hB zd73_5 rfl ?_
    refine zv_cge hB zd73_8 rfl (fun hc2 => ?_) (fun hc2 => ?_)
    · rw [if_neg (Int.not_lt.mpr hc2)] at h
      have hw := Option.some.inj h
      subst hw
      exact hvret _ _ _ _ zd73_21 trivial ⟨rfl, rfl, rfl⟩
    · rw [if_pos hc2] at h
      refine zv_ald hB zd73_11 rfl rfl rfl ?_
      refine zv_getr hB zd73_12 rfl ?_
      refine zv_ild hB zd73_15 rfl rfl ?_
      refine zv_ald hB zd73_16 rfl rfl rfl ?_
      refine zv_getf hB zd73_17 rfl rfl (fun _ _ => ?_)
      obtain ⟨c3, h⟩ := zi_if h
      refine zv_iast hB zd73_20 rfl rfl (zi_ix_ok c3).1 (zi_ix_ok c3).2 ?_
      have hw := Option.some.inj h
      subst hw
      exact hvret _ _ _ _ zd73_21 trivial ⟨rfl, rfl, rfl⟩
/-! LawReader_readComparison (I)V -/
-- names: 0 LawReader('arg', 0), 1 (0, 220)(0, 5, 0), 2 Law(0, 5, 4), 3 (0, 200)(2, 4, 0), 4 (0, 200)(2, 4, 1)
-- fields: f0 = 0.law_, f1 = 0.fault_, f2 = 0.at_, f3 = 0.length_, f4 = 2.steps_; arrays: g0 = 1, g1 = 3, g2 = 4; out: [('f', 1), ('f', 2), ('f', 4), ('g', 1), ('g', 2)]
abbrev zy_LawReader_readComparison : zNL := (5, [(0, 5), (2, 4)], [(0, 5, 4, 0), (0, 5, 3, 1), (0, 5, 2, 2), (0, 5, 1, 3), (2, 4, 2, 4)], [(0, 5, 0, 1), (2, 4, 0, 3), (2, 4, 1, 4)], [(1, 0, 220, 0), (3, 0, 200, 1), (4, 0, 200, 2)])
theorem zyw_LawReader_readComparison : zv_wf zy_LawReader_readComparison = true := by decide +kernel
theorem zye_LawReader_readComparison : zv_ek2 zy_LawReader_readComparison = true := by decide +kernel
def zf_LawReader_readComparison (x1 : Int) (f1 : Int) (f2 : Int) (f3 : Int) (f4 : Int) (g0 : (Int → Int)) (g1 : (Int → Int)) (g2 : (Int → Int)) : Option (Int × Int × Int × (Int → Int) × (Int → Int)) := (zf_LawReader_readSum x1 f1 f2 f3 f4 g0 g1 g2).bind fun r1 => (if r1.1 = 0 then ((zf_LawReader_peek r1.2.1 f3 g0).bind fun r3 => (if r3 = 60 then ((zf_LawReader_readSum x1 r1.1 (zi_w (r1.2.1 + 1)) f3 r1.2.2.1 g0 r1.2.2.2.1 r1.2.2.2.2).bind fun r5 => ((zf_Law_addStep 10 0 r5.2.2.1 r5.2.2.2.1 r5.2.2.2.2).bind fun r7 => (some (r5.1, r5.2.1, r7.2.1, r7.2.2.1, r7.2.2.2)))) else (if r3 = 62 then ((zf_LawReader_readSum x1 r1.1 (zi_w (r1.2.1 + 1)) f3 r1.2.2.1 g0 r1.2.2.2.1 r1.2.2.2.2).bind fun r9 => ((zf_Law_addStep 11 0 r9.2.2.1 r9.2.2.2.1 r9.2.2.2.2).bind fun r12 => (some (r9.1, r9.2.1, r12.2.1, r12.2.2.1, r12.2.2.2)))) else (if r3 = 61 then ((zf_LawReader_readSum x1 r1.1 (zi_w (r1.2.1 + 1)) f3 r1.2.2.1 g0 r1.2.2.2.1 r1.2.2.2.2).bind fun r14 => ((zf_Law_addStep 12 0 r14.2.2.1 r14.2.2.2.1 r14.2.2.2.2).bind fun r17 => (some (r14.1, r14.2.1, r17.2.1, r17.2.2.1, r17.2.2.2)))) else ((zf_LawReader_fail 1 r1.1 r1.2.1).bind fun r18 => (some (r18, r1.2.1, r1.2.2.1, r1.2.2.2.1, r1.2.2.2.2))))))) else (some (r1.1, r1.2.1, r1.2.2.1, r1.2.2.2.1, r1.2.2.2.2)))
theorem zd72_0 : decode zxm72.2.1 0 = .ok (.aload_n 0, 1) := by decide +kernel
theorem zd72_1 : decode zxm72.2.1 1 = .ok (.iload_n 1, 1) := by decide +kernel
theorem zd72_2 : decode zxm72.2.1 2 = .ok (.invokevirtual 63, 3) := by decide +kernel
theorem zd72_5 : decode zxm72.2.1 5 = .ok (.aload_n 0, 1) := by decide +kernel
theorem zd72_6 : decode zxm72.2.1 6 = .ok (.getfield 18, 3) := by decide +kernel
theorem zd72_9 : decode zxm72.2.1 9 = .ok (.ifCond .eq 4, 3) := by decide +kernel
theorem zd72_12 : decode zxm72.2.1 12 = .ok (.return_, 1) := by decide +kernel
theorem zd72_13 : decode zxm72.2.1 13 = .ok (.aload_n 0, 1) := by decide +kernel
theorem zd72_14 : decode zxm72.2.1 14 = .ok (.invokevirtual 53, 3) := by decide +kernel
theorem zd72_17 : decode zxm72.2.1 17 = .ok (.istore_n 2, 1) := by decide +kernel
theorem zd72_18 : decode zxm72.2.1 18 = .ok (.iload_n 2, 1) := by decide +kernel
theorem zd72_19 : decode zxm72.2.1 19 = .ok (.bipush 60, 2) := by decide +kernel
theorem zd72_21 : decode zxm72.2.1 21 = .ok (.if_icmp .eq 21, 3) := by decide +kernel
theorem zd72_24 : decode zxm72.2.1 24 = .ok (.iload_n 2, 1) := by decide +kernel
theorem zd72_25 : decode zxm72.2.1 25 = .ok (.bipush 62, 2) := by decide +kernel
theorem zd72_27 : decode zxm72.2.1 27 = .ok (.if_icmp .eq 15, 3) := by decide +kernel
theorem zd72_30 : decode zxm72.2.1 30 = .ok (.iload_n 2, 1) := by decide +kernel
theorem zd72_31 : decode zxm72.2.1 31 = .ok (.bipush 61, 2) := by decide +kernel
theorem zd72_33 : decode zxm72.2.1 33 = .ok (.if_icmp .eq 9, 3) := by decide +kernel
theorem zd72_36 : decode zxm72.2.1 36 = .ok (.aload_n 0, 1) := by decide +kernel
theorem zd72_37 : decode zxm72.2.1 37 = .ok (.iconst 1, 1) := by decide +kernel
theorem zd72_38 : decode zxm72.2.1 38 = .ok (.invokevirtual 57, 3) := by decide +kernel
theorem zd72_41 : decode zxm72.2.1 41 = .ok (.return_, 1) := by decide +kernel
theorem zd72_42 : decode zxm72.2.1 42 = .ok (.aload_n 0, 1) := by decide +kernel
theorem zd72_43 : decode zxm72.2.1 43 = .ok (.dup, 1) := by decide +kernel
theorem zd72_44 : decode zxm72.2.1 44 = .ok (.getfield 15, 3) := by decide +kernel
theorem zd72_47 : decode zxm72.2.1 47 = .ok (.iconst 1, 1) := by decide +kernel
theorem zd72_48 : decode zxm72.2.1 48 = .ok (.iadd, 1) := by decide +kernel
theorem zd72_49 : decode zxm72.2.1 49 = .ok (.putfield 15, 3) := by decide +kernel
theorem zd72_52 : decode zxm72.2.1 52 = .ok (.aload_n 0, 1) := by decide +kernel
theorem zd72_53 : decode zxm72.2.1 53 = .ok (.iload_n 1, 1) := by decide +kernel
theorem zd72_54 : decode zxm72.2.1 54 = .ok (.invokevirtual 63, 3) := by decide +kernel
theorem zd72_57 : decode zxm72.2.1 57 = .ok (.aload_n 0, 1) := by decide +kernel
theorem zd72_58 : decode zxm72.2.1 58 = .ok (.getfield 25, 3) := by decide +kernel
theorem zd72_61 : decode zxm72.2.1 61 = .ok (.iload_n 2, 1) := by decide +kernel
theorem zd72_62 : decode zxm72.2.1 62 = .ok (.bipush 60, 2) := by decide +kernel
theorem zd72_64 : decode zxm72.2.1 64 = .ok (.if_icmp .ne 8, 3) := by decide +kernel
theorem zd72_67 : decode zxm72.2.1 67 = .ok (.bipush 10, 2) := by decide +kernel
theorem zd72_69 : decode zxm72.2.1 69 = .ok (.goto 16, 3) := by decide +kernel
theorem zd72_72 : decode zxm72.2.1 72 = .ok (.iload_n 2, 1) := by decide +kernel
theorem zd72_73 : decode zxm72.2.1 73 = .ok (.bipush 62, 2) := by decide +kernel
theorem zd72_75 : decode zxm72.2.1 75 = .ok (.if_icmp .ne 8, 3) := by decide +kernel
theorem zd72_78 : decode zxm72.2.1 78 = .ok (.bipush 11, 2) := by decide +kernel
theorem zd72_80 : decode zxm72.2.1 80 = .ok (.goto 5, 3) := by decide +kernel
theorem zd72_83 : decode zxm72.2.1 83 = .ok (.bipush 12, 2) := by decide +kernel
theorem zd72_85 : decode zxm72.2.1 85 = .ok (.iconst 0, 1) := by decide +kernel
theorem zd72_86 : decode zxm72.2.1 86 = .ok (.invokevirtual 76, 3) := by decide +kernel
theorem zd72_89 : decode zxm72.2.1 89 = .ok (.pop, 1) := by decide +kernel
theorem zd72_90 : decode zxm72.2.1 90 = .ok (.return_, 1) := by decide +kernel
theorem zt_LawReader_readComparison {x1 : Int} {f1 : Int} {f2 : Int} {f3 : Int} {f4 : Int} {g0 : (Int → Int)} {g1 : (Int → Int)} {g2 : (Int → Int)} {o : Int × Int × Int × (Int → Int) × (Int → Int)} (h : zf_LawReader_readComparison x1 f1 f2 f3 f4 g0 g1 g2 = some o) : zv_Fn z_TB z_cl z_KX zy_LawReader_readComparison zxm72 (37, 2220) [.inr 0, .inl x1] [.inr 2, .inl f1, .inl f2, .inl f3, .inl f4] [g0, g1, g2] none [.inr 2, .inl o.1, .inl o.2.1, .inl f3, .inl o.2.2.1] [g0, o.2.2.2.1, o.2.2.2.2] := zv_meth (K := (z_KF3, z_KC3, z_KL3, z_KT3, [], [], [], none)) (FT := z_FT) (MT := z_MT) (n := 2) zxp72 (z_ks3 _ (fun _ h => List.mem_cons_of_mem _ h) _ _ _ _ (fun j r h _ => by cases h)) (fun _ _ => zs_KX_p) zyw_LawReader_readComparison (fun va F G h => by obtain ⟨rfl, _⟩ := h; rfl) (fun va F G h => by obtain ⟨rfl, _⟩ := h; rfl) rfl fun good va F G hB hret hvret hP => by
  obtain ⟨rfl, rfl, rfl⟩ := hP
  unfold zf_LawReader_readComparison at h
  refine zv_ald hB zd72_0 rfl rfl rfl ?_
  refine zv_ild hB zd72_1 rfl rfl ?_
  obtain ⟨r1, hr1, h⟩ := zi_bind h
  refine zv_cv hB (zv_emq (va2 := [.inr 0, .inl x1]) (F := [.inr 2, .inl f1, .inl f2, .inl f3, .inl f4]) (F' := [.inr 2, .inl r1.1, .inl r1.2.1, .inl f3, .inl r1.2.2.1]) (G := [g0, g1, g2]) (G' := [g0, r1.2.2.2.1, r1.2.2.2.2]) (ρ := [0, 1, 2, 3, 4]) (φ := [1, 2, 3, 0, 4]) (ψ := [0, 1, 2]) [some 3, some 0, some 1, some 2, some 4] [some 0, some 1, some 2] zyw_LawReader_readSum zyw_LawReader_readComparison zye_LawReader_readComparison (by decide +kernel) (zt_LawReader_readSum hr1) ⟨⟨_, rfl, fun _ => rfl⟩, ⟨_, rfl, fun _ => rfl⟩, ⟨_, rfl, fun _ => rfl⟩, ⟨_, rfl, fun _ => rfl⟩, ⟨_, rfl, fun _ => rfl⟩, trivial⟩ ⟨rfl, rfl, rfl, trivial⟩ rfl rfl rfl rfl rfl rfl rfl) zd72_2 zxt43 rfl (by decide) (by decide) rfl ?_
  refine zv_ald hB zd72_5 rfl rfl rfl ?_
  refine zv_getf hB zd72_6 rfl rfl (fun _ _ => ?_)
  refine zv_zeq hB zd72_9 rfl (fun hc2 => ?_) (fun hc2 => ?_)
  · rw [if_pos hc2] at h
    refine zv_ald hB zd72_13 rfl rfl rfl ?_
    obtain ⟨r3, hr3, h⟩ := zi_bind h
    refine zv_cv hB (zv_emq (va2 := [.inr 0]) (F := [.inr 2, .inl r1.1, .inl r1.2.1, .inl f3, .inl r1.2.2.1]) (F' := [.inr 2, .inl r1.1, .inl r1.2.1, .inl f3, .inl r1.2.2.1]) (G := [g0, r1.2.2.2.1, r1.2.2.2.2]) (G' := [g0, r1.2.2.2.1, r1.2.2.2.2]) (ρ := [0, 1]) (φ := [2, 3]) (ψ := [0]) [none, none, some 0, some 1, none] [some 0, none, none] zyw_LawReader_peek zyw_LawReader_readComparison zye_LawReader_readComparison (by decide +kernel) (zt_LawReader_peek hr3) ⟨⟨_, rfl, fun _ => rfl⟩, ⟨_, rfl, fun _ => rfl⟩, trivial⟩ ⟨rfl, trivial⟩ rfl rfl rfl rfl rfl rfl rfl) zd72_14 zxt40 rfl (by decide) (by decide) rfl ?_
    refine zv_ist hB zd72_17 rfl rfl rfl ?_
    refine zv_ild hB zd72_18 rfl rfl ?_
    refine zv_con hB zd72_19 rfl ?_
    refine zv_ceq hB zd72_21 rfl (fun hc4 => ?_) (fun hc4 => ?_)
    · rw [if_pos hc4] at h
      refine zv_ald hB zd72_42 rfl rfl rfl ?_
      refine zv_dup hB zd72_43 rfl ?_
      refine zv_getf hB zd72_44 rfl rfl (fun _ _ => ?_)
      refine zv_con hB zd72_47 rfl ?_
      refine zv_addw hB zd72_48 ?_
      refine zv_putf hB zd72_49 rfl rfl (fun h => by cases h) rfl ?_
      refine zv_ald hB zd72_52 rfl rfl rfl ?_
      refine zv_ild hB zd72_53 rfl rfl ?_
      obtain ⟨r5, hr5, h⟩ := zi_bind h
      refine zv_cv hB (zv_emq (va2 := [.inr 0, .inl x1]) (F := [.inr 2, .inl r1.1, .inl (zi_w (r1.2.1 + 1)), .inl f3, .inl r1.2.2.1]) (F' := [.inr 2, .inl r5.1, .inl r5.2.1, .inl f3, .inl r5.2.2.1]) (G := [g0, r1.2.2.2.1, r1.2.2.2.2]) (G' := [g0, r5.2.2.2.1, r5.2.2.2.2]) (ρ := [0, 1, 2, 3, 4]) (φ := [1, 2, 3, 0, 4]) (ψ := [0, 1, 2]) [some 3, some 0, some 1, some 2, some 4] [some 0, some 1, some 2] zyw_LawReader_readSum zyw_LawReader_readComparison zye_LawReader_readComparison (by decide +kernel) (zt_LawReader_readSum hr5) ⟨⟨_, rfl, fun _ => rfl⟩, ⟨_, rfl, fun _ => rfl⟩, ⟨_, rfl, fun _ => rfl⟩, ⟨_, rfl, fun _ => rfl⟩, ⟨_, rfl, fun _ => rfl⟩, trivial⟩ ⟨rfl, rfl, rfl, trivial⟩ rfl rfl rfl rfl rfl rfl rfl) zd72_54 zxt43 rfl (by decide) (by decide) rfl ?_
      refine zv_ald hB zd72_57 rfl rfl rfl ?_
      refine zv_getq hB zd72_58 rfl rfl rfl ?_
      refine zv_ild hB zd72_61 rfl rfl ?_
      refine zv_con hB zd72_62 rfl ?_
      refine zv_cne hB zd72_64 rfl (fun hc => absurd hc (by omega)) (fun _ => ?_)
      refine zv_con hB zd72_67 rfl ?_
      refine zv_goto hB zd72_69 rfl ?_
      refine zv_con hB zd72_85 rfl ?_
      obtain ⟨r7, hr7, h⟩ := zi_bind h
      refine zv_cv hB (zv_emq (va2 := [.inr 2, .inl 10, .inl 0]) (F := [.inr 2, .inl r5.1, .inl r5.2.1, .inl f3, .inl r5.2.2.1]) (F' := [.inr 2, .inl r5.1, .inl r5.2.1, .inl f3, .inl r7.2.1]) (G := [g0, r5.2.2.2.1, r5.2.2.2.2]) (G' := [g0, r7.2.2.1, r7.2.2.2]) (ρ := [2, 3, 4]) (φ := [4]) (ψ := [1, 2]) [none, none, none, none, some 0] [none, some 0, some 1] zyw_Law_addStep zyw_LawReader_readComparison zye_LawReader_readComparison (by decide +kernel) (zt_Law_addStep hr7) ⟨⟨_, rfl, fun _ => rfl⟩, trivial⟩ ⟨rfl, rfl, trivial⟩ rfl rfl rfl rfl rfl rfl rfl) zd72_86 zxt49 rfl (by decide) (by decide) rfl ?_
      refine zv_pop hB zd72_89 rfl ?_
      have hw := Option.some.inj h
      subst hw
      exact hvret _ _ _ _ zd72_90 trivial ⟨rfl, rfl, rfl⟩
    · rw [if_neg hc4] at h
      refine zv_ild hB zd72_24 rfl rfl ?_
      refine zv_con hB zd72_25 rfl ?_
      refine zv_ceq hB zd72_27 rfl (fun hc8 => ?_) (fun hc8 => ?_)
      · rw [if_pos hc8] at h
        refine zv_ald hB zd72_42 rfl rfl rfl ?_
        refine zv_dup hB zd72_43 rfl ?_
        refine zv_getf hB zd72_44 rfl rfl (fun _ _ => ?_)
        refine zv_con hB zd72_47 rfl ?_
        refine zv_addw hB zd72_48 ?_
        refine zv_putf hB zd72_49 rfl rfl (fun h => by cases h) rfl ?_
        refine zv_ald hB zd72_52 rfl rfl rfl ?_
        refine zv_ild hB zd72_53 rfl rfl ?_
        obtain ⟨r9, hr9, h⟩ := zi_bind h
        refine zv_cv hB (zv_emq (va2 := [.inr 0, .inl x1]) (F := [.inr 2, .inl r1.1, .inl (zi_w (r1.2.1 + 1)), .inl f3, .inl r1.2.2.1]) (F' := [.inr 2, .inl r9.1, .inl r9.2.1, .inl f3, .inl r9.2.2.1]) (G := [g0, r1.2.2.2.1, r1.2.2.2.2]) (G' := [g0, r9.2.2.2.1, r9.2.2.2.2]) (ρ := [0, 1, 2, 3, 4]) (φ := [1, 2, 3, 0, 4]) (ψ := [0, 1, 2]) [some 3, some 0, some 1, some 2, some 4] [some 0, some 1, some 2] zyw_LawReader_readSum zyw_LawReader_readComparison zye_LawReader_readComparison (by decide +kernel) (zt_LawReader_readSum hr9) ⟨⟨_, rfl, fun _ => rfl⟩, ⟨_, rfl, fun _ => rfl⟩, ⟨_, rfl, fun _ => rfl⟩, ⟨_, rfl, fun _ => rfl⟩, ⟨_, rfl, fun _ => rfl⟩, trivial⟩ ⟨rfl, rfl, rfl, trivial⟩ rfl rfl rfl rfl rfl rfl rfl) zd72_54 zxt43 rfl (by decide) (by decide) rfl ?_
        refine zv_ald hB zd72_57 rfl rfl rfl ?_
        refine zv_getq hB zd72_58 rfl rfl rfl ?_
        refine zv_ild hB zd72_61 rfl rfl ?_
        refine zv_con hB zd72_62 rfl ?_
        refine zv_cne hB zd72_64 rfl (fun _ => ?_) (fun hc => absurd hc (by omega))
        refine zv_ild hB zd72_72 rfl rfl ?_
        refine zv_con hB zd72_73 rfl ?_
        refine zv_cne hB zd72_75 rfl (fun hc => absurd hc (by omega)) (fun _ => ?_)
        refine zv_con hB zd72_78 rfl ?_
        refine zv_goto hB zd72_80 rfl ?_
        refine zv_con hB zd72_85 rfl ?_
        obtain ⟨r12, hr12, h⟩ := zi_bind h
        refine zv_cv hB (zv_emq (va2 := [.inr 2, .inl 11, .inl 0]) (F := [.inr 2, .inl r9.1, .inl r9.2.1, .inl f3, .inl r9.2.2.1]) (F' := [.inr 2, .inl r9.1, .inl r9.2.1, .inl f3, .inl r12.2.1]) (G := [g0, r9.2.2.2.1, r9.2.2.2.2]) (G' := [g0, r12.2.2.1, r12.2.2.2]) (ρ := [2, 3, 4]) (φ := [4]) (ψ := [1, 2]) [none, none, none, none, some 0] [none, some 0, some 1] zyw_Law_addStep zyw_LawReader_readComparison zye_LawReader_readComparison (by decide +kernel) (zt_Law_addStep hr12) ⟨⟨_, rfl, fun _ => rfl⟩, trivial⟩ ⟨rfl, rfl, trivial⟩ rfl rfl rfl rfl rfl rfl rfl) zd72_86 zxt49 rfl (by decide) (by decide) rfl ?_
        refine zv_pop hB zd72_89 rfl ?_
        have hw := Option.some.inj h
        subst hw
        exact hvret _ _ _ _ zd72_90 trivial ⟨rfl, rfl, rfl⟩
      · rw [if_neg hc8] at h
        refine zv_ild hB zd72_30 rfl rfl ?_
        refine zv_con hB zd72_31 rfl ?_
        refine zv_ceq hB zd72_33 rfl (fun hc13 => ?_) (fun hc13 => ?_)
        · rw [if_pos hc13] at h
          refine zv_ald hB zd72_42 rfl rfl rfl ?_
          refine zv_dup hB zd72_43 rfl ?_
          refine zv_getf hB zd72_44 rfl rfl (fun _ _ => ?_)
          refine zv_con hB zd72_47 rfl ?_
          refine zv_addw hB zd72_48 ?_
          refine zv_putf hB zd72_49 rfl rfl (fun h => by cases h) rfl ?_
          refine zv_ald hB zd72_52 rfl rfl rfl ?_
          refine zv_ild hB zd72_53 rfl rfl ?_
          obtain ⟨r14, hr14, h⟩ := zi_bind h
          refine zv_cv hB (zv_emq (va2 := [.inr 0, .inl x1]) (F := [.inr 2, .inl r1.1, .inl (zi_w (r1.2.1 + 1)), .inl f3, .inl r1.2.2.1]) (F' := [.inr 2, .inl r14.1, .inl r14.2.1, .inl f3, .inl r14.2.2.1]) (G := [g0, r1.2.2.2.1, r1.2.2.2.2]) (G' := [g0, r14.2.2.2.1, r14.2.2.2.2]) (ρ := [0, 1, 2, 3, 4]) (φ := [1, 2, 3, 0, 4]) (ψ := [0, 1, 2]) [some 3, some 0, some 1, some 2, some 4] [some 0, some 1, some 2] zyw_LawReader_readSum zyw_LawReader_readComparison zye_LawReader_readComparison (by decide +kernel) (zt_LawReader_readSum hr14) ⟨⟨_, rfl, fun _ => rfl⟩, ⟨_, rfl, fun _ => rfl⟩, ⟨_, rfl, fun _ => rfl⟩, ⟨_, rfl, fun _ => rfl⟩, ⟨_, rfl, fun _ => rfl⟩, trivial⟩ ⟨rfl, rfl, rfl, trivial⟩ rfl rfl rfl rfl rfl rfl rfl) zd72_54 zxt43 rfl (by decide) (by decide) rfl ?_
          refine zv_ald hB zd72_57 rfl rfl rfl ?_
          refine zv_getq hB zd72_58 rfl rfl rfl ?_
          refine zv_ild hB zd72_61 rfl rfl ?_
          refine zv_con hB zd72_62 rfl ?_
          refine zv_cne hB zd72_64 rfl (fun _ => ?_) (fun hc => absurd hc (by omega))
          refine zv_ild hB zd72_72 rfl rfl ?_
          refine zv_con hB zd72_73 rfl ?_
          refine zv_cne hB zd72_75 rfl (fun _ => ?_) (fun hc => absurd hc (by omega))
          refine zv_con hB zd72_83 rfl ?_
          refine zv_con hB zd72_85 rfl ?_
          obtain ⟨r17, hr17, h⟩ := zi_bind h
          refine zv_cv hB (zv_emq (va2 := [.inr 2, .inl 12, .inl 0]) (F := [.inr 2, .inl r14.1, .inl r14.2.1, .inl f3, .inl r14.2.2.1]) (F' := [.inr 2, .inl r14.1, .inl r14.2.1, .inl f3, .inl r17.2.1]) (G := [g0, r14.2.2.2.1, r14.2.2.2.2]) (G' := [g0, r17.2.2.1, r17.2.2.2]) (ρ := [2, 3, 4]) (φ := [4]) (ψ := [1, 2]) [none, none, none, none, some 0] [none, some 0, some 1] zyw_Law_addStep zyw_LawReader_readComparison zye_LawReader_readComparison (by decide +kernel) (zt_Law_addStep hr17) ⟨⟨_, rfl, fun _ => rfl⟩, trivial⟩ ⟨rfl, rfl, trivial⟩ rfl rfl rfl rfl rfl rfl rfl) zd72_86 zxt49 rfl (by decide) (by decide) rfl ?_
          refine zv_pop hB zd72_89 rfl ?_
          have hw := Option.some.inj h
          subst hw
          exact hvret _ _ _ _ zd72_90 trivial ⟨rfl, rfl, rfl⟩
        · rw [if_neg hc13] at h
          refine zv_ald hB zd72_36 rfl rfl rfl ?_
          refine zv_con hB zd72_37 rfl ?_
          obtain ⟨r18, hr18, h⟩ := zi_bind h
          refine zv_cv hB (zv_emq (va2 := [.inr 0, .inl 1]) (F := [.inr 2, .inl r1.1, .inl r1.2.1, .inl f3, .inl r1.2.2.1]) (F' := [.inr 2, .inl r18, .inl r1.2.1, .inl f3, .inl r1.2.2.1]) (G := [g0, r1.2.2.2.1, r1.2.2.2.2]) (G' := [g0, r1.2.2.2.1, r1.2.2.2.2]) (ρ := [0]) (φ := [1, 2]) (ψ := []) [none, some 0, some 1, none, none] [none, none, none] zyw_LawReader_fail zyw_LawReader_readComparison zye_LawReader_readComparison (by decide +kernel) (zt_LawReader_fail hr18) ⟨⟨_, rfl, fun _ => rfl⟩, ⟨_, rfl, fun _ => rfl⟩, trivial⟩ trivial rfl rfl rfl rfl rfl rfl rfl) zd72_38 zxt41 rfl (by decide) (by decide) rfl ?_
          have hw := Option.some.inj h
          subst hw
          exact hvret _ _ _ _ zd72_41 trivial ⟨rfl, rfl, rfl⟩
  · rw [if_neg hc2] at h
    have hw := Option.some.inj h
    subst hw
    exact hvret _ _ _ _ zd72_12 trivial ⟨rfl, rfl, rfl⟩
end
section
/-! Methods as functions, and that they do what these do. -/
/-! LawReader_readCondition (I)V -/
-- names: 0 LawReader('arg', 0), 1 (0, 220)(0, 5, 0), 2 Law(0, 5, 4), 3 (0, 200)(2, 4, 0), 4 (0, 200)(2, 4, 1)
-- fields: f0 = 0.fault_, f1 = 0.at_, f2 = 0.length_, f3 = 0.law_, f4 = 2.steps_; arrays: g0 = 1, g1 = 3, g2 = 4; out: [('f', 0), ('f', 1), ('f', 4), ('g', 1), ('g', 2)]
abbrev zy_LawReader_readCondition : zNL := (5, [(0, 5), (2, 4)], [(0, 5, 3, 0), (0, 5, 2, 1), (0, 5, 1, 2), (0, 5, 4, 3), (2, 4, 2, 4)], [(0, 5, 0, 1), (2, 4, 0, 3), (2, 4, 1, 4)], [(1, 0, 220, 0), (3, 0, 200, 1), (4, 0, 200, 2)])
theorem zyw_LawReader_readCondition : zv_wf zy_LawReader_readCondition = true := by decide +kernel
theorem zye_LawReader_readCondition : zv_ek2 zy_LawReader_readCondition = true := by decide +kernel
def zm_LawReader_readCondition_l0_b (rc : Nat → Int → Int → Int → Int → Int → (Int → Int) → (Int → Int) → (Int → Int) → Option (Int × Int × Int × (Int → Int) × (Int → Int))) (x1 : Int) (f2 : Int) (g0 : (Int → Int)) (rec : Int → Int → Int → (Int → Int) → (Int → Int) → Option (Int × Int × Int × (Int → Int) × (Int → Int))) (f0 : Int) (f1 : Int) (f4 : Int) (g1 : (Int → Int)) (g2 : (Int → Int)) : Option (Int × Int × Int × (Int → Int) × (Int → Int)) := if f0 = 0 then (if f1 < f2 then (cond (zi_ix f1 220) (if (g0 f1) = 124 then ((zf_Law_addStep 3 0 f4 g1 g2).bind fun r6 => ((rc 1 x1 f0 (zi_w (f1 + 1)) f2 r6.2.1 g0 r6.2.2.1 r6.2.2.2).bind fun r7 => ((zf_Law_landJump r6.1 r7.2.2.1 r7.2.2.2.2).bind fun r8 => (rec r7.1 r7.2.1 r7.2.2.1 r7.2.2.2.1 r8)))) else (some (f0, f1, f4, g1, g2))) none) else (some (f0, f1, f4, g1, g2))) else (some (f0, f1, f4, g1, g2))
def zm_LawReader_readCondition_l0 (rc : Nat → Int → Int → Int → Int → Int → (Int → Int) → (Int → Int) → (Int → Int) → Option (Int × Int × Int × (Int → Int) × (Int → Int))) (x1 : Int) (f2 : Int) (g0 : (Int → Int)) : Nat → Int → Int → Int → (Int → Int) → (Int → Int) → Option (Int × Int × Int × (Int → Int) × (Int → Int))
  | 0, _, _, _, _, _ => none
  | n + 1, f0, f1, f4, g1, g2 => zm_LawReader_readCondition_l0_b rc x1 f2 g0 (zm_LawReader_readCondition_l0 rc x1 f2 g0 n) f0 f1 f4 g1 g2
def zm_LawReader_readCondition (rc : Nat → Int → Int → Int → Int → Int → (Int → Int) → (Int → Int) → (Int → Int) → Option (Int × Int × Int × (Int → Int) × (Int → Int))) (x1 : Int) (f0 : Int) (f1 : Int) (f2 : Int) (f4 : Int) (g0 : (Int → Int)) (g1 : (Int → Int)) (g2 : (Int → Int)) : Option (Int × Int × Int × (Int → Int) × (Int → Int)) := (rc 1 x1 f0 f1 f2 f4 g0 g1 g2).bind fun r1 => ((zm_LawReader_readCondition_l0 rc x1 f2 g0 zi_fu r1.1 r1.2.1 r1.2.2.1 r1.2.2.2.1 r1.2.2.2.2).bind fun q9 => (some (q9.1, q9.2.1, q9.2.2.1, q9.2.2.2.1, q9.2.2.2.2)))
theorem zd69_0 : decode zxm69.2.1 0 = .ok (.aload_n 0, 1) := by decide +kernel
theorem zd69_1 : decode zxm69.2.1 1 = .ok (.iload_n 1, 1) := by decide +kernel
theorem zd69_2 : decode zxm69.2.1 2 = .ok (.invokevirtual 73, 3) := by decide +kernel
theorem zd69_5 : decode zxm69.2.1 5 = .ok (.aload_n 0, 1) := by decide +kernel
theorem zd69_6 : decode zxm69.2.1 6 = .ok (.getfield 18, 3) := by decide +kernel
theorem zd69_9 : decode zxm69.2.1 9 = .ok (.ifCond .ne 64, 3) := by decide +kernel
theorem zd69_12 : decode zxm69.2.1 12 = .ok (.aload_n 0, 1) := by decide +kernel
theorem zd69_13 : decode zxm69.2.1 13 = .ok (.getfield 15, 3) := by decide +kernel
theorem zd69_16 : decode zxm69.2.1 16 = .ok (.aload_n 0, 1) := by decide +kernel
theorem zd69_17 : decode zxm69.2.1 17 = .ok (.getfield 9, 3) := by decide +kernel
theorem zd69_20 : decode zxm69.2.1 20 = .ok (.if_icmp .ge 53, 3) := by decide +kernel
theorem zd69_23 : decode zxm69.2.1 23 = .ok (.aload_n 0, 1) := by decide +kernel
theorem zd69_24 : decode zxm69.2.1 24 = .ok (.getfield 21, 3) := by decide +kernel
theorem zd69_27 : decode zxm69.2.1 27 = .ok (.aload_n 0, 1) := by decide +kernel
theorem zd69_28 : decode zxm69.2.1 28 = .ok (.getfield 15, 3) := by decide +kernel
theorem zd69_31 : decode zxm69.2.1 31 = .ok (.iaload, 1) := by decide +kernel
theorem zd69_32 : decode zxm69.2.1 32 = .ok (.bipush 124, 2) := by decide +kernel
theorem zd69_34 : decode zxm69.2.1 34 = .ok (.if_icmp .ne 39, 3) := by decide +kernel
theorem zd69_37 : decode zxm69.2.1 37 = .ok (.aload_n 0, 1) := by decide +kernel
theorem zd69_38 : decode zxm69.2.1 38 = .ok (.dup, 1) := by decide +kernel
theorem zd69_39 : decode zxm69.2.1 39 = .ok (.getfield 15, 3) := by decide +kernel
theorem zd69_42 : decode zxm69.2.1 42 = .ok (.iconst 1, 1) := by decide +kernel
theorem zd69_43 : decode zxm69.2.1 43 = .ok (.iadd, 1) := by decide +kernel
theorem zd69_44 : decode zxm69.2.1 44 = .ok (.putfield 15, 3) := by decide +kernel
theorem zd69_47 : decode zxm69.2.1 47 = .ok (.aload_n 0, 1) := by decide +kernel
theorem zd69_48 : decode zxm69.2.1 48 = .ok (.getfield 25, 3) := by decide +kernel
theorem zd69_51 : decode zxm69.2.1 51 = .ok (.iconst 3, 1) := by decide +kernel
theorem zd69_52 : decode zxm69.2.1 52 = .ok (.iconst 0, 1) := by decide +kernel
theorem zd69_53 : decode zxm69.2.1 53 = .ok (.invokevirtual 76, 3) := by decide +kernel
theorem zd69_56 : decode zxm69.2.1 56 = .ok (.istore_n 2, 1) := by decide +kernel
theorem zd69_57 : decode zxm69.2.1 57 = .ok (.aload_n 0, 1) := by decide +kernel
theorem zd69_58 : decode zxm69.2.1 58 = .ok (.iload_n 1, 1) := by decide +kernel
theorem zd69_59 : decode zxm69.2.1 59 = .ok (.invokevirtual 73, 3) := by decide +kernel
theorem zd69_62 : decode zxm69.2.1 62 = .ok (.aload_n 0, 1) := by decide +kernel
theorem zd69_63 : decode zxm69.2.1 63 = .ok (.getfield 25, 3) := by decide +kernel
theorem zd69_66 : decode zxm69.2.1 66 = .ok (.iload_n 2, 1) := by decide +kernel
theorem zd69_67 : decode zxm69.2.1 67 = .ok (.invokevirtual 79, 3) := by decide +kernel
theorem zd69_70 : decode zxm69.2.1 70 = .ok (.goto (-65), 3) := by decide +kernel
theorem zd69_73 : decode zxm69.2.1 73 = .ok (.return_, 1) := by decide +kernel
theorem zts_LawReader_readCondition {dp : Nat} {rc : Nat → Int → Int → Int → Int → Int → (Int → Int) → (Int → Int) → (Int → Int) → Option (Int × Int × Int × (Int → Int) × (Int → Int))} (ih0 : ∀ (x1 : Int) (f0 : Int) (f1 : Int) (f2 : Int) (f4 : Int) (g0 : (Int → Int)) (g1 : (Int → Int)) (g2 : (Int → Int)) (o : Int × Int × Int × (Int → Int) × (Int → Int)), rc 0 x1 f0 f1 f2 f4 g0 g1 g2 = some o → zv_Fn z_TB z_cl z_KX zy_LawReader_readCondition zxm69 (38 + dp, 60 * (38 + dp)) [.inr 0, .inl x1] [.inl f0, .inl f1, .inl f2, .inr 2, .inl f4] [g0, g1, g2] none [.inl o.1, .inl o.2.1, .inl f2, .inr 2, .inl o.2.2.1] [g0, o.2.2.2.1, o.2.2.2.2]) (ih1 : ∀ (x1 : Int) (f0 : Int) (f1 : Int) (f2 : Int) (f4 : Int) (g0 : (Int → Int)) (g1 : (Int → Int)) (g2 : (Int → Int)) (o : Int × Int × Int × (Int → Int) × (Int → Int)), rc 1 x1 f0 f1 f2 f4 g0 g1 g2 = some o → zv_Fn z_TB z_cl z_KX zy_LawReader_readCondition zxm70 (38 + dp, 60 * (38 + dp)) [.inr 0, .inl x1] [.inl f0, .inl f1, .inl f2, .inr 2, .inl f4] [g0, g1, g2] none [.inl o.1, .inl o.2.1, .inl f2, .inr 2, .inl o.2.2.1] [g0, o.2.2.2.1, o.2.2.2.2]) (ih2 : ∀ (x1 : Int) (f0 : Int) (f1 : Int) (f2 : Int) (f4 : Int) (g0 : (Int → Int)) (g1 : (Int → Int)) (g2 : (Int → Int)) (o : Int × Int × Int × (Int → Int) × (Int → Int)), rc 2 x1 f0 f1 f2 f4 g0 g1 g2 = some o → zv_Fn z_TB z_cl z_KX zy_LawReader_readCondition zxm71 (38 + dp, 60 * (38 + dp)) [.inr 0, .inl x1] [.inl f0, .inl f1, .inl f2, .inr 2, .inl f4] [g0, g1, g2] none [.inl o.1, .inl o.2.1, .inl f2, .inr 2, .inl o.2.2.1] [g0, o.2.2.2.1, o.2.2.2.2]) {x1 : Int} {f0 : Int} {f1 : Int} {f2 : Int} {f4 : Int} {g0 : (Int → Int)} {g1 : (Int → Int)} {g2 : (Int → Int)} {o : Int × Int × Int × (Int → Int) × (Int → Int)} (h : zm_LawReader_readCondition rc x1 f0 f1 f2 f4 g0 g1 g2 = some o) : zv_Fn z_TB z_cl z_KX zy_LawReader_readCondition zxm69 (38 + (dp + 1), 60 * (38 + (dp + 1))) [.inr 0, .inl x1] [.inl f0, .inl f1, .inl f2, .inr 2, .inl f4] [g0, g1, g2] none [.inl o.1, .inl o.2.1, .inl f2, .inr 2, .inl o.2.2.1] [g0, o.2.2.2.1, o.2.2.2.2] := zv_meth (K := (z_KF3, z_KC3, z_KL3, z_KT3, [], [], [], none)) (FT := z_FT) (MT := z_MT) (n := 2) zxp69 (z_ks3 _ (fun _ h => List.mem_cons_of_mem _ h) _ _ _ _ (fun j r h _ => by cases h)) (fun _ _ => zs_KX_p) zyw_LawReader_readCondition (fun va F G h => by obtain ⟨rfl, _⟩ := h; rfl) (fun va F G h => by obtain ⟨rfl, _⟩ := h; rfl) rfl fun good va F G hB hret hvret hP => by
  obtain ⟨rfl, rfl, rfl⟩ := hP
  have l0 : ∀ (n : Nat) (x1 : Int) (f0 : Int) (f1 : Int) (f4 : Int) (g1 : (Int → Int)) (g2 : (Int → Int)) (q : Int × Int × Int × (Int → Int) × (Int → Int)), zm_LawReader_readCondition_l0 rc x1 f2 g0 n f0 f1 f4 g1 g2 = some q → (good 73 [.inr 1000, .inr 1000, .inr 1000] [] [.inl q.1, .inl q.2.1, .inl f2, .inr 2, .inl q.2.2.1] [g0, q.2.2.2.1, q.2.2.2.2]) → good 5 [.inr 0, .inl x1, .inr 1000] [] [.inl f0, .inl f1, .inl f2, .inr 2, .inl f4] [g0, g1, g2] := by
    intro n
    induction n with
    | zero => intro x1 f0 f1 f4 g1 g2 q h; exact absurd (show none = some q from h) (fun h => by cases h)
    | succ n ih =>
      intro x1 f0 f1 f4 g1 g2 q h hK
      replace h : zm_LawReader_readCondition_l0_b rc x1 f2 g0 (zm_LawReader_readCondition_l0 rc x1 f2 g0 n) f0 f1 f4 g1 g2 = some q := h
      unfold zm_LawReader_readCondition_l0_b at h
      refine zv_ald hB zd69_5 rfl rfl rfl ?_
      refine zv_getf hB zd69_6 rfl rfl (fun _ _ => ?_)
      refine zv_zne hB zd69_9 rfl (fun hc2 => ?_) (fun hc2 => ?_)
      · rw [if_neg hc2] at h
        have hq := Option.some.inj h
        subst hq
        refine zv_wk hB (L' := [.inr 1000, .inr 1000, .inr 1000]) (F' := [.inl f0, .inl f1, .inl f2, .inr 2, .inl f4]) ⟨fun (h : zv_is (.inr 1000)) => (Nat.lt_irrefl 1000 h).elim, fun (h : zv_is (.inr 1000)) => (Nat.lt_irrefl 1000 h).elim, fun (h : zv_is (.inr 1000)) => (Nat.lt_irrefl 1000 h).elim, trivial⟩ ⟨fun _ => rfl, fun _ => rfl, fun _ => rfl, fun _ => rfl, fun _ => rfl, trivial⟩ ?_
        exact hK
      · rw [if_pos hc2] at h
        refine zv_ald hB zd69_12 rfl rfl rfl ?_
        refine zv_getf hB zd69_13 rfl rfl (fun _ _ => ?_)
        refine zv_ald hB zd69_16 rfl rfl rfl ?_
        refine zv_getf hB zd69_17 rfl rfl (fun _ _ => ?_)
        refine zv_cge hB zd69_20 rfl (fun hc3 => ?_) (fun hc3 => ?_)
        · rw [if_neg (Int.not_lt.mpr hc3)] at h
          have hq := Option.some.inj h
          subst hq
          refine zv_wk hB (L' := [.inr 1000, .inr 1000, .inr 1000]) (F' := [.inl f0, .inl f1, .inl f2, .inr 2, .inl f4]) ⟨fun (h : zv_is (.inr 1000)) => (Nat.lt_irrefl 1000 h).elim, fun (h : zv_is (.inr 1000)) => (Nat.lt_irrefl 1000 h).elim, fun (h : zv_is (.inr 1000)) => (Nat.lt_irrefl 1000 h).elim, trivial⟩ ⟨fun _ => rfl, fun _ => rfl, fun _ => rfl, fun _ => rfl, fun _ => rfl, trivial⟩ ?_
          exact hK
        · rw [if_pos hc3] at h
          refine zv_ald hB zd69_23 rfl rfl rfl ?_
          refine zv_getr hB zd69_24 rfl ?_
          refine zv_ald hB zd69_27 rfl rfl rfl ?_
          refine zv_getf hB zd69_28 rfl rfl (fun _ _ => ?_)
          obtain ⟨c4, h⟩ := zi_if h
          refine zv_iald hB zd69_31 rfl rfl (zi_ix_ok c4).1 (zi_ix_ok c4).2 (fun _ _ => ?_)
          refine zv_con hB zd69_32 rfl ?_
          refine zv_cne hB zd69_34 rfl (fun hc5 => ?_) (fun hc5 => ?_)
          · rw [if_neg hc5] at h
            have hq := Option.some.inj h
            subst hq
            refine zv_wk hB (L' := [.inr 1000, .inr 1000, .inr 1000]) (F' := [.inl f0, .inl f1, .inl f2, .inr 2, .inl f4]) ⟨fun (h : zv_is (.inr 1000)) => (Nat.lt_irrefl 1000 h).elim, fun (h : zv_is (.inr 1000)) => (Nat.lt_irrefl 1000 h).elim, fun (h : zv_is (.inr 1000)) => (Nat.lt_irrefl 1000 h).elim, trivial⟩ ⟨fun _ => rfl, fun _ => rfl, fun _ => rfl, fun _ => rfl, fun _ => rfl, trivial⟩ ?_
            exact hK
          · rw [if_pos hc5] at h
            refine zv_ald hB zd69_37 rfl rfl rfl ?_
            refine zv_dup hB zd69_38 rfl ?_
            refine zv_getf hB zd69_39 rfl rfl (fun _ _ => ?_)
            refine zv_con hB zd69_42 rfl ?_
            refine zv_addw hB zd69_43 ?_
            refine zv_putf hB zd69_44 rfl rfl (fun h => by cases h) rfl ?_
            refine zv_ald hB zd69_47 rfl rfl rfl ?_
            refine zv_getq hB zd69_48 rfl rfl rfl ?_
            refine zv_con hB zd69_51 rfl ?_
            refine zv_con hB zd69_52 rfl ?_
            obtain ⟨r6, hr6, h⟩ := zi_bind h
            refine zv_cv hB (zv_emq (va2 := [.inr 2, .inl 3, .inl 0]) (F := [.inl f0, .inl (zi_w (f1 + 1)), .inl f2, .inr 2, .inl f4]) (F' := [.inl f0, .inl (zi_w (f1 + 1)), .inl f2, .inr 2, .inl r6.2.1]) (G := [g0, g1, g2]) (G' := [g0, r6.2.2.1, r6.2.2.2]) (ρ := [2, 3, 4]) (φ := [4]) (ψ := [1, 2]) [none, none, none, none, some 0] [none, some 0, some 1] zyw_Law_addStep zyw_LawReader_readCondition zye_LawReader_readCondition (by decide +kernel) (zt_Law_addStep hr6) ⟨⟨_, rfl, fun _ => rfl⟩, trivial⟩ ⟨rfl, rfl, trivial⟩ rfl rfl rfl rfl rfl rfl rfl) zd69_53 zxt49 rfl (by show 0 + 1 ≤ 38 + (dp + 1); omega) (by show 8 + (3 + 11) + 60 * (0) ≤ 60 * (38 + (dp + 1)); omega) rfl ?_
            refine zv_ist hB zd69_56 rfl rfl rfl ?_
            refine zv_ald hB zd69_57 rfl rfl rfl ?_
            refine zv_ild hB zd69_58 rfl rfl ?_
            obtain ⟨r7, hr7, h⟩ := zi_bind h
            refine zv_cv hB (show zv_Fn _ _ _ zy_LawReader_readCondition _ _ [.inr 0, .inl x1] [.inl f0, .inl (zi_w (f1 + 1)), .inl f2, .inr 2, .inl r6.2.1] [g0, r6.2.2.1, r6.2.2.2] none [.inl r7.1, .inl r7.2.1, .inl f2, .inr 2, .inl r7.2.2.1] [g0, r7.2.2.2.1, r7.2.2.2.2] from ih1 _ _ _ _ _ _ _ _ r7 hr7) zd69_59 zxt70 rfl (by show 38 + dp + 1 ≤ 38 + (dp + 1); omega) (by show 8 + (3 + 11) + 60 * (38 + dp) ≤ 60 * (38 + (dp + 1)); omega) rfl ?_
            refine zv_ald hB zd69_62 rfl rfl rfl ?_
            refine zv_getq hB zd69_63 rfl rfl rfl ?_
            refine zv_ild hB zd69_66 rfl rfl ?_
            obtain ⟨r8, hr8, h⟩ := zi_bind h
            refine zv_cv hB (zv_emq (va2 := [.inr 2, .inl r6.1]) (F := [.inl r7.1, .inl r7.2.1, .inl f2, .inr 2, .inl r7.2.2.1]) (F' := [.inl r7.1, .inl r7.2.1, .inl f2, .inr 2, .inl r7.2.2.1]) (G := [g0, r7.2.2.2.1, r7.2.2.2.2]) (G' := [g0, r7.2.2.2.1, r8]) (ρ := [2, 4]) (φ := [4]) (ψ := [2]) [none, none, none, none, some 0] [none, none, some 0] zyw_Law_landJump zyw_LawReader_readCondition zye_LawReader_readCondition (by decide +kernel) (zt_Law_landJump hr8) ⟨⟨_, rfl, fun _ => rfl⟩, trivial⟩ ⟨rfl, trivial⟩ rfl rfl rfl rfl rfl rfl rfl) zd69_67 zxt73 rfl (by show 0 + 1 ≤ 38 + (dp + 1); omega) (by show 8 + (2 + 11) + 60 * (0) ≤ 60 * (38 + (dp + 1)); omega) rfl ?_
            refine zv_goto hB zd69_70 rfl ?_
            refine zv_wk hB (L' := [.inr 0, .inl x1, .inr 1000]) (F' := [.inl r7.1, .inl r7.2.1, .inl f2, .inr 2, .inl r7.2.2.1]) ⟨fun _ => rfl, fun _ => rfl, fun (h : zv_is (.inr 1000)) => (Nat.lt_irrefl 1000 h).elim, trivial⟩ ⟨fun _ => rfl, fun _ => rfl, fun _ => rfl, fun _ => rfl, fun _ => rfl, trivial⟩ ?_
            exact ih _ _ _ _ _ _ q h hK
  unfold zm_LawReader_readCondition at h
  refine zv_ald hB zd69_0 rfl rfl rfl ?_
  refine zv_ild hB zd69_1 rfl rfl ?_
  obtain ⟨r1, hr1, h⟩ := zi_bind h
  refine zv_cv hB (show zv_Fn _ _ _ zy_LawReader_readCondition _ _ [.inr 0, .inl x1] [.inl f0, .inl f1, .inl f2, .inr 2, .inl f4] [g0, g1, g2] none [.inl r1.1, .inl r1.2.1, .inl f2, .inr 2, .inl r1.2.2.1] [g0, r1.2.2.2.1, r1.2.2.2.2] from ih1 _ _ _ _ _ _ _ _ r1 hr1) zd69_2 zxt70 rfl (by show 38 + dp + 1 ≤ 38 + (dp + 1); omega) (by show 8 + (3 + 11) + 60 * (38 + dp) ≤ 60 * (38 + (dp + 1)); omega) rfl ?_
  obtain ⟨q9, hq9, h⟩ := zi_bind h
  refine l0 _ _ _ _ _ _ _ q9 hq9 ?_
  show good 73 [.inr 1000, .inr 1000, .inr 1000] [] [.inl q9.1, .inl q9.2.1, .inl f2, .inr 2, .inl q9.2.2.1] [g0, q9.2.2.2.1, q9.2.2.2.2]
  have hw := Option.some.inj h
  subst hw
  exact hvret _ _ _ _ zd69_73 trivial ⟨rfl, rfl, rfl⟩
/-! LawReader_readPart (I)V -/
def zm_LawReader_readPart_l0_b (rc : Nat → Int → Int → Int → Int → Int → (Int → Int) → (Int → Int) → (Int → Int) → Option (Int × Int × Int × (Int → Int) × (Int → Int))) (x1 : Int) (f2 : Int) (g0 : (Int → Int)) (rec : Int → Int → Int → (Int → Int) → (Int → Int) → Option (Int × Int × Int × (Int → Int) × (Int → Int))) (f0 : Int) (f1 : Int) (f4 : Int) (g1 : (Int → Int)) (g2 : (Int → Int)) : Option (Int × Int × Int × (Int → Int) × (Int → Int)) := if f0 = 0 then (if f1 < f2 then (cond (zi_ix f1 220) (if (g0 f1) = 38 then ((zf_Law_addStep 4 0 f4 g1 g2).bind fun r6 => ((rc 2 x1 f0 (zi_w (f1 + 1)) f2 r6.2.1 g0 r6.2.2.1 r6.2.2.2).bind fun r7 => ((zf_Law_landJump r6.1 r7.2.2.1 r7.2.2.2.2).bind fun r8 => (rec r7.1 r7.2.1 r7.2.2.1 r7.2.2.2.1 r8)))) else (some (f0, f1, f4, g1, g2))) none) else (some (f0, f1, f4, g1, g2))) else (some (f0, f1, f4, g1, g2))
def zm_LawReader_readPart_l0 (rc : Nat → Int → Int → Int → Int → Int → (Int → Int) → (Int → Int) → (Int → Int) → Option (Int × Int × Int × (Int → Int) × (Int → Int))) (x1 : Int) (f2 : Int) (g0 : (Int → Int)) : Nat → Int → Int → Int → (Int → Int) → (Int → Int) → Option (Int × Int × Int × (Int → Int) × (Int → Int))
  | 0, _, _, _, _, _ => none
  | n + 1, f0, f1, f4, g1, g2 => zm_LawReader_readPart_l0_b rc x1 f2 g0 (zm_LawReader_readPart_l0 rc x1 f2 g0 n) f0 f1 f4 g1 g2
def zm_LawReader_readPart (rc : Nat → Int → Int → Int → Int → Int → (Int → Int) → (Int → Int) → (Int → Int) → Option (Int × Int × Int × (Int → Int) × (Int → Int))) (x1 : Int) (f0 : Int) (f1 : Int) (f2 : Int) (f4 : Int) (g0 : (Int → Int)) (g1 : (Int → Int)) (g2 : (Int → Int)) : Option (Int × Int × Int × (Int → Int) × (Int → Int)) := (rc 2 x1 f0 f1 f2 f4 g0 g1 g2).bind fun r1 => ((zm_LawReader_readPart_l0 rc x1 f2 g0 zi_fu r1.1 r1.2.1 r1.2.2.1 r1.2.2.2.1 r1.2.2.2.2).bind fun q9 => (some (q9.1, q9.2.1, q9.2.2.1, q9.2.2.2.1, q9.2.2.2.2)))
theorem zd70_0 : decode zxm70.2.1 0 = .ok (.aload_n 0, 1) := by decide +kernel
theorem zd70_1 : decode zxm70.2.1 1 = .ok (.iload_n 1, 1) := by decide +kernel
theorem zd70_2 : decode zxm70.2.1 2 = .ok (.invokevirtual 82, 3) := by decide +kernel
theorem zd70_5 : decode zxm70.2.1 5 = .ok (.aload_n 0, 1) := by decide +kernel
theorem zd70_6 : decode zxm70.2.1 6 = .ok (.getfield 18, 3) := by decide +kernel
theorem zd70_9 : decode zxm70.2.1 9 = .ok (.ifCond .ne 64, 3) := by decide +kernel
theorem zd70_12 : decode zxm70.2.1 12 = .ok (.aload_n 0, 1) := by decide +kernel
theorem zd70_13 : decode zxm70.2.1 13 = .ok (.getfield 15, 3) := by decide +kernel
theorem zd70_16 : decode zxm70.2.1 16 = .ok (.aload_n 0, 1) := by decide +kernel
theorem zd70_17 : decode zxm70.2.1 17 = .ok (.getfield 9, 3) := by decide +kernel
theorem zd70_20 : decode zxm70.2.1 20 = .ok (.if_icmp .ge 53, 3) := by decide +kernel
theorem zd70_23 : decode zxm70.2.1 23 = .ok (.aload_n 0, 1) := by decide +kernel
theorem zd70_24 : decode zxm70.2.1 24 = .ok (.getfield 21, 3) := by decide +kernel
theorem zd70_27 : decode zxm70.2.1 27 = .ok (.aload_n 0, 1) := by decide +kernel
theorem zd70_28 : decode zxm70.2.1 28 = .ok (.getfield 15, 3) := by decide +kernel
theorem zd70_31 : decode zxm70.2.1 31 = .ok (.iaload, 1) := by decide +kernel
theorem zd70_32 : decode zxm70.2.1 32 = .ok (.bipush 38, 2) := by decide +kernel
theorem zd70_34 : decode zxm70.2.1 34 = .ok (.if_icmp .ne 39, 3) := by decide +kernel
theorem zd70_37 : decode zxm70.2.1 37 = .ok (.aload_n 0, 1) := by decide +kernel
theorem zd70_38 : decode zxm70.2.1 38 = .ok (.dup, 1) := by decide +kernel
theorem zd70_39 : decode zxm70.2.1 39 = .ok (.getfield 15, 3) := by decide +kernel
theorem zd70_42 : decode zxm70.2.1 42 = .ok (.iconst 1, 1) := by decide +kernel
theorem zd70_43 : decode zxm70.2.1 43 = .ok (.iadd, 1) := by decide +kernel
theorem zd70_44 : decode zxm70.2.1 44 = .ok (.putfield 15, 3) := by decide +kernel
theorem zd70_47 : decode zxm70.2.1 47 = .ok (.aload_n 0, 1) := by decide +kernel
theorem zd70_48 : decode zxm70.2.1 48 = .ok (.getfield 25, 3) := by decide +kernel
theorem zd70_51 : decode zxm70.2.1 51 = .ok (.iconst 4, 1) := by decide +kernel
theorem zd70_52 : decode zxm70.2.1 52 = .ok (.iconst 0, 1) := by decide +kernel
theorem zd70_53 : decode zxm70.2.1 53 = .ok (.invokevirtual 76, 3) := by decide +kernel
theorem zd70_56 : decode zxm70.2.1 56 = .ok (.istore_n 2, 1) := by decide +kernel
theorem zd70_57 : decode zxm70.2.1 57 = .ok (.aload_n 0, 1) := by decide +kernel
theorem zd70_58 : decode zxm70.2.1 58 = .ok (.iload_n 1, 1) := by decide +kernel
theorem zd70_59 : decode zxm70.2.1 59 = .ok (.invokevirtual 82, 3) := by decide +kernel
theorem zd70_62 : decode zxm70.2.1 62 = .ok (.aload_n 0, 1) := by decide +kernel
theorem zd70_63 : decode zxm70.2.1 63 = .ok (.getfield 25, 3) := by decide +kernel
theorem zd70_66 : decode zxm70.2.1 66 = .ok (.iload_n 2, 1) := by decide +kernel
theorem zd70_67 : decode zxm70.2.1 67 = .ok (.invokevirtual 79, 3) := by decide +kernel
theorem zd70_70 : decode zxm70.2.1 70 = .ok (.goto (-65), 3) := by decide +kernel
theorem zd70_73 : decode zxm70.2.1 73 = .ok (.return_, 1) := by decide +kernel
theorem zts_LawReader_readPart {dp : Nat} {rc : Nat → Int → Int → Int → Int → Int → (Int → Int) → (Int → Int) → (Int → Int) → Option (Int × Int × Int × (Int → Int) × (Int → Int))} (ih0 : ∀ (x1 : Int) (f0 : Int) (f1 : Int) (f2 : Int) (f4 : Int) (g0 : (Int → Int)) (g1 : (Int → Int)) (g2 : (Int → Int)) (o : Int × Int × Int × (Int → Int) × (Int → Int)), rc 0 x1 f0 f1 f2 f4 g0 g1 g2 = some o → zv_Fn z_TB z_cl z_KX zy_LawReader_readCondition zxm69 (38 + dp, 60 * (38 + dp)) [.inr 0, .inl x1] [.inl f0, .inl f1, .inl f2, .inr 2, .inl f4] [g0, g1, g2] none [.inl o.1, .inl o.2.1, .inl f2, .inr 2, .inl o.2.2.1] [g0, o.2.2.2.1, o.2.2.2.2]) (ih1 : ∀ (x1 : Int) (f0 : Int) (f1 : Int) (f2 : Int) (f4 : Int) (g0 : (Int → Int)) (g1 : (Int → Int)) (g2 : (Int → Int)) (o : Int × Int × Int × (Int → Int) × (Int → Int)), rc 1 x1 f0 f1 f2 f4 g0 g1 g2 = some o → zv_Fn z_TB z_cl z_KX zy_LawReader_readCondition zxm70 (38 + dp, 60 * (38 + dp)) [.inr 0, .inl x1] [.inl f0, .inl f1, .inl f2, .inr 2, .inl f4] [g0, g1, g2] none [.inl o.1, .inl o.2.1, .inl f2, .inr 2, .inl o.2.2.1] [g0, o.2.2.2.1, o.2.2.2.2]) (ih2 : ∀ (x1 : Int) (f0 : Int) (f1 : Int) (f2 : Int) (f4 : Int) (g0 : (Int → Int)) (g1 : (Int → Int)) (g2 : (Int → Int)) (o : Int × Int × Int × (Int → Int) × (Int → Int)), rc 2 x1 f0 f1 f2 f4 g0 g1 g2 = some o → zv_Fn z_TB z_cl z_KX zy_LawReader_readCondition zxm71 (38 + dp, 60 * (38 + dp)) [.inr 0, .inl x1] [.inl f0, .inl f1, .inl f2, .inr 2, .inl f4] [g0, g1, g2] none [.inl o.1, .inl o.2.1, .inl f2, .inr 2, .inl o.2.2.1] [g0, o.2.2.2.1, o.2.2.2.2]) {x1 : Int} {f0 : Int} {f1 : Int} {f2 : Int} {f4 : Int} {g0 : (Int → Int)} {g1 : (Int → Int)} {g2 : (Int → Int)} {o : Int × Int × Int × (Int → Int) × (Int → Int)} (h : zm_LawReader_readPart rc x1 f0 f1 f2 f4 g0 g1 g2 = some o) : zv_Fn z_TB z_cl z_KX zy_LawReader_readCondition zxm70 (38 + (dp + 1), 60 * (38 + (dp + 1))) [.inr 0, .inl x1] [.inl f0, .inl f1, .inl f2, .inr 2, .inl f4] [g0, g1, g2] none [.inl o.1, .inl o.2.1, .inl f2, .inr 2, .inl o.2.2.1] [g0, o.2.2.2.1, o.2.2.2.2] := zv_meth (K := (z_KF3, z_KC3, z_KL3, z_KT3, [], [], [], none)) (FT := z_FT) (MT := z_MT) (n := 2) zxp70 (z_ks3 _ (fun _ h => List.mem_cons_of_mem _ h) _ _ _ _ (fun j r h _ => by cases h)) (fun _ _ => zs_KX_p) zyw_LawReader_readCondition (fun va F G h => by obtain ⟨rfl, _⟩ := h; rfl) (fun va F G h => by obtain ⟨rfl, _⟩ := h; rfl) rfl fun good va F G hB hret hvret hP => by
  obtain ⟨rfl, rfl, rfl⟩ := hP
  have l0 : ∀ (n : Nat) (x1 : Int) (f0 : Int) (f1 : Int) (f4 : Int) (g1 : (Int → Int)) (g2 : (Int → Int)) (q : Int × Int × Int × (Int → Int) × (Int → Int)), zm_LawReader_readPart_l0 rc x1 f2 g0 n f0 f1 f4 g1 g2 = some q → (good 73 [.inr 1000, .inr 1000, .inr 1000] [] [.inl q.1, .inl q.2.1, .inl f2, .inr 2, .inl q.2.2.1] [g0, q.2.2.2.1, q.2.2.2.2]) → good 5 [.inr 0, .inl x1, .inr 1000] [] [.inl f0, .inl f1, .inl f2, .inr 2, .inl f4] [g0, g1, g2] := by
    intro n
    induction n with
    | zero => intro x1 f0 f1 f4 g1 g2 q h; exact absurd (show none = some q from h) (fun h => by cases h)
    | succ n ih =>
      intro x1 f0 f1 f4 g1 g2 q h hK
      replace h : zm_LawReader_readPart_l0_b rc x1 f2 g0 (zm_LawReader_readPart_l0 rc x1 f2 g0 n) f0 f1 f4 g1 g2 = some q := h
      unfold zm_LawReader_readPart_l0_b at h
      refine zv_ald hB zd70_5 rfl rfl rfl ?_
      refine zv_getf hB zd70_6 rfl rfl (fun _ _ => ?_)
      refine zv_zne hB zd70_9 rfl (fun hc2 => ?_) (fun hc2 => ?_)
      · rw [if_neg hc2] at h
        have hq := Option.some.inj h
        subst hq
        refine zv_wk hB (L' := [.inr 1000, .inr 1000, .inr 1000]) (F' := [.inl f0, .inl f1, .inl f2, .inr 2, .inl f4]) ⟨fun (h : zv_is (.inr 1000)) => (Nat.lt_irrefl 1000 h).elim, fun (h : zv_is (.inr 1000)) => (Nat.lt_irrefl 1000 h).elim, fun (h : zv_is (.inr 1000)) => (Nat.lt_irrefl 1000 h).elim, trivial⟩ ⟨fun _ => rfl, fun _ => rfl, fun _ => rfl, fun _ => rfl, fun _ => rfl, trivial⟩ ?_
        exact hK
      · rw [if_pos hc2] at h
        refine zv_ald hB zd70_12 rfl rfl rfl ?_
        refine zv_getf hB zd70_13 rfl rfl (fun _ _ => ?_)
        refine zv_ald hB zd70_16 rfl rfl rfl ?_
        refine zv_getf hB zd70_17 rfl rfl (fun _ _ => ?_)
        refine zv_cge hB zd70_20 rfl (fun hc3 => ?_) (fun hc3 => ?_)
        · rw [if_neg (Int.not_lt.mpr hc3)] at h
          have hq := Option.some.inj h
          subst hq
          refine zv_wk hB (L' := [.inr 1000, .inr 1000, .inr 1000]) (F' := [.inl f0, .inl f1, .inl f2, .inr 2, .inl f4]) ⟨fun (h : zv_is (.inr 1000)) => (Nat.lt_irrefl 1000 h).elim, fun (h : zv_is (.inr 1000)) => (Nat.lt_irrefl 1000 h).elim, fun (h : zv_is (.inr 1000)) => (Nat.lt_irrefl 1000 h).elim, trivial⟩ ⟨fun _ => rfl, fun _ => rfl, fun _ => rfl, fun _ => rfl, fun _ => rfl, trivial⟩ ?_
          exact hK
        · rw [if_pos hc3] at h
          refine zv_ald hB zd70_23 rfl rfl rfl ?_
          refine zv_getr hB zd70_24 rfl ?_
          refine zv_ald hB zd70_27 rfl rfl rfl ?_
          refine zv_getf hB zd70_28 rfl rfl (fun _ _ => ?_)
          obtain ⟨c4, h⟩ := zi_if h
          refine zv_iald hB zd70_31 rfl rfl (zi_ix_ok c4).1 (zi_ix_ok c4).2 (fun _ _ => ?_)
          refine zv_con hB zd70_32 rfl ?_
          refine zv_cne hB zd70_34 rfl (fun hc5 => ?_) (fun hc5 => ?_)
          · rw [if_neg hc5] at h
            have hq := Option.some.inj h
            subst hq
            refine zv_wk hB (L' := [.inr 1000, .inr 1000, .inr 1000]) (F' := [.inl f0, .inl f1, .inl f2, .inr 2, .inl f4]) ⟨fun (h : zv_is (.inr 1000)) => (Nat.lt_irrefl 1000 h).elim, fun (h : zv_is (.inr 1000)) => (Nat.lt_irrefl 1000 h).elim, fun (h : zv_is (.inr 1000)) => (Nat.lt_irrefl 1000 h).elim, trivial⟩ ⟨fun _ => rfl, fun _ => rfl, fun _ => rfl, fun _ => rfl, fun _ => rfl, trivial⟩ ?_
            exact hK
          · rw [if_pos hc5] at h
            refine zv_ald hB zd70_37 rfl rfl rfl ?_
            refine zv_dup hB zd70_38 rfl ?_
            refine zv_getf hB zd70_39 rfl rfl (fun _ _ => ?_)
            refine zv_con hB zd70_42 rfl ?_
            refine zv_addw hB zd70_43 ?_
            refine zv_putf hB zd70_44 rfl rfl (fun h => by cases h) rfl ?_
            refine zv_ald hB zd70_47 rfl rfl rfl ?_
            refine zv_getq hB zd70_48 rfl rfl rfl ?_
            refine zv_con hB zd70_51 rfl ?_
            refine zv_con hB zd70_52 rfl ?_
            obtain ⟨r6, hr6, h⟩ := zi_bind h
            refine zv_cv hB (zv_emq (va2 := [.inr 2, .inl 4, .inl 0]) (F := [.inl f0, .inl (zi_w (f1 + 1)), .inl f2, .inr 2, .inl f4]) (F' := [.inl f0, .inl (zi_w (f1 + 1)), .inl f2, .inr 2, .inl r6.2.1]) (G := [g0, g1, g2]) (G' := [g0, r6.2.2.1, r6.2.2.2]) (ρ := [2, 3, 4]) (φ := [4]) (ψ := [1, 2]) [none, none, none, none, some 0] [none, some 0, some 1] zyw_Law_addStep zyw_LawReader_readCondition zye_LawReader_readCondition (by decide +kernel) (zt_Law_addStep hr6) ⟨⟨_, rfl, fun _ => rfl⟩, trivial⟩ ⟨rfl, rfl, trivial⟩ rfl rfl rfl rfl rfl rfl rfl) zd70_53 zxt49 rfl (by show 0 + 1 ≤ 38 + (dp + 1); omega) (by show 8 + (3 + 11) + 60 * (0) ≤ 60 * (38 + (dp + 1)); omega) rfl ?_
            refine zv_ist hB zd70_56 rfl rfl rfl ?_
            refine zv_ald hB zd70_57 rfl rfl rfl ?_
            refine zv_ild hB zd70_58 rfl rfl ?_
            obtain ⟨r7, hr7, h⟩ := zi_bind h
            refine zv_cv hB (show zv_Fn _ _ _ zy_LawReader_readCondition _ _ [.inr 0, .inl x1] [.inl f0, .inl (zi_w (f1 + 1)), .inl f2, .inr 2, .inl r6.2.1] [g0, r6.2.2.1, r6.2.2.2] none [.inl r7.1, .inl r7.2.1, .inl f2, .inr 2, .inl r7.2.2.1] [g0, r7.2.2.2.1, r7.2.2.2.2] from ih2 _ _ _ _ _ _ _ _ r7 hr7) zd70_59 zxt71 rfl (by show 38 + dp + 1 ≤ 38 + (dp + 1); omega) (by show 8 + (3 + 11) + 60 * (38 + dp) ≤ 60 * (38 + (dp + 1)); omega) rfl ?_
            refine zv_ald hB zd70_62 rfl rfl rfl ?_
            refine zv_getq hB zd70_63 rfl rfl rfl ?_
            refine zv_ild hB zd70_66 rfl rfl ?_
            obtain ⟨r8, hr8, h⟩ := zi_bind h
            refine zv_cv hB (zv_emq (va2 := [.inr 2, .inl r6.1]) (F := [.inl r7.1, .inl r7.2.1, .inl f2, .inr 2, .inl r7.2.2.1]) (F' := [.inl r7.1, .inl r7.2.1, .inl f2, .inr 2, .inl r7.2.2.1]) (G := [g0, r7.2.2.2.1, r7.2.2.2.2]) (G' := [g0, r7.2.2.2.1, r8]) (ρ := [2, 4]) (φ := [4]) (ψ := [2]) [none, none, none, none, some 0] [none, none, some 0] zyw_Law_landJump zyw_LawReader_readCondition zye_LawReader_readCondition (by decide +kernel) (zt_Law_landJump hr8) ⟨⟨_, rfl, fun _ => rfl⟩, trivial⟩ ⟨rfl, trivial⟩ rfl rfl rfl rfl rfl rfl rfl) zd70_67 zxt73 rfl (by show 0 + 1 ≤ 38 + (dp + 1); omega) (by show 8 + (2 + 11) + 60 * (0) ≤ 60 * (38 + (dp + 1)); omega) rfl ?_
            refine zv_goto hB zd70_70 rfl ?_
            refine zv_wk hB (L' := [.inr 0, .inl x1, .inr 1000]) (F' := [.inl r7.1, .inl r7.2.1, .inl f2, .inr 2, .inl r7.2.2.1]) ⟨fun _ => rfl, fun _ => rfl, fun (h : zv_is (.inr 1000)) => (Nat.lt_irrefl 1000 h).elim, trivial⟩ ⟨fun _ => rfl, fun _ => rfl, fun _ => rfl, fun _ => rfl, fun _ => rfl, trivial⟩ ?_
            exact ih _ _ _ _ _ _ q h hK
  unfold zm_LawReader_readPart at h
  refine zv_ald hB zd70_0 rfl rfl rfl ?_
  refine zv_ild hB zd70_1 rfl rfl ?_
  obtain ⟨r1, hr1, h⟩ := zi_bind h
  refine zv_cv hB (show zv_Fn _ _ _ zy_LawReader_readCondition _ _ [.inr 0, .inl x1] [.inl f0, .inl f1, .inl f2, .inr 2, .inl f4] [g0, g1, g2] none [.inl r1.1, .inl r1.2.1, .inl f2, .inr 2, .inl r1.2.2.1] [g0, r1.2.2.2.1, r1.2.2.2.2] from ih2 _ _ _ _ _ _ _ _ r1 hr1) zd70_2 zxt71 rfl (by show 38 + dp + 1 ≤ 38 + (dp + 1); omega) (by show 8 + (3 + 11) + 60 * (38 + dp) ≤ 60 * (38 + (dp + 1)); omega) rfl ?_
  obtain ⟨q9, hq9, h⟩ := zi_bind h
  refine l0 _ _ _ _ _ _ _ q9 hq9 ?_
  show good 73 [.inr 1000, .inr 1000, .inr 1000] [] [.inl q9.1, .inl q9.2.1, .inl f2, .inr 2, .inl q9.2.2.1] [g0, q9.2.2.2.1, q9.2.2.2.2]
  have hw := Option.some.inj h
  subst hw
  exact hvret _ _ _ _ zd70_73 trivial ⟨rfl, rfl, rfl⟩
/-! LawReader_readPiece (I)V -/
def zm_LawReader_readPiece (rc : Nat → Int → Int → Int → Int → Int → (Int → Int) → (Int → Int) → (Int → Int) → Option (Int × Int × Int × (Int → Int) × (Int → Int))) (x1 : Int) (f0 : Int) (f1 : Int) (f2 : Int) (f4 : Int) (g0 : (Int → Int)) (g1 : (Int → Int)) (g2 : (Int → Int)) : Option (Int × Int × Int × (Int → Int) × (Int → Int)) := (zf_LawReader_peek f1 f2 g0).bind fun r1 => (if f0 = 0 then (if r1 = 33 then (if x1 < 6 then ((rc 2 (zi_w (x1 + 1)) f0 (zi_w (f1 + 1)) f2 f4 g0 g1 g2).bind fun r6 => ((zf_Law_addStep 2 0 r6.2.2.1 r6.2.2.2.1 r6.2.2.2.2).bind fun r7 => (some (r6.1, r6.2.1, r7.2.1, r7.2.2.1, r7.2.2.2)))) else ((zf_LawReader_fail 5 f0 f1).bind fun r8 => (some (r8, f1, f4, g1, g2)))) else (if r1 = 40 then (if x1 < 6 then ((rc 0 (zi_w (x1 + 1)) f0 (zi_w (f1 + 1)) f2 f4 g0 g1 g2).bind fun r12 => ((zf_LawReader_skip 41 r12.1 r12.2.1 f2 g0).bind fun r13 => (some (r13.1, r13.2, r12.2.2.1, r12.2.2.2.1, r12.2.2.2.2)))) else ((zf_LawReader_fail 5 f0 f1).bind fun r14 => (some (r14, f1, f4, g1, g2)))) else ((zf_LawReader_readComparison x1 f0 f1 f2 f4 g0 g1 g2).bind fun r15 => (some (r15.1, r15.2.1, r15.2.2.1, r15.2.2.2.1, r15.2.2.2.2))))) else (some (f0, f1, f4, g1, g2)))
theorem zd71_0 : decode zxm71.2.1 0 = .ok (.aload_n 0, 1) := by decide +kernel
theorem zd71_1 : decode zxm71.2.1 1 = .ok (.invokevirtual 53, 3) := by decide +kernel
theorem zd71_4 : decode zxm71.2.1 4 = .ok (.istore_n 2, 1) := by decide +kernel
theorem zd71_5 : decode zxm71.2.1 5 = .ok (.aload_n 0, 1) := by decide +kernel
theorem zd71_6 : decode zxm71.2.1 6 = .ok (.getfield 18, 3) := by decide +kernel
theorem zd71_9 : decode zxm71.2.1 9 = .ok (.ifCond .eq 4, 3) := by decide +kernel
theorem zd71_12 : decode zxm71.2.1 12 = .ok (.return_, 1) := by decide +kernel
theorem zd71_13 : decode zxm71.2.1 13 = .ok (.iload_n 2, 1) := by decide +kernel
theorem zd71_14 : decode zxm71.2.1 14 = .ok (.bipush 33, 2) := by decide +kernel
theorem zd71_16 : decode zxm71.2.1 16 = .ok (.if_icmp .eq 17, 3) := by decide +kernel
theorem zd71_19 : decode zxm71.2.1 19 = .ok (.iload_n 2, 1) := by decide +kernel
theorem zd71_20 : decode zxm71.2.1 20 = .ok (.bipush 40, 2) := by decide +kernel
theorem zd71_22 : decode zxm71.2.1 22 = .ok (.if_icmp .eq 11, 3) := by decide +kernel
theorem zd71_25 : decode zxm71.2.1 25 = .ok (.aload_n 0, 1) := by decide +kernel
theorem zd71_26 : decode zxm71.2.1 26 = .ok (.iload_n 1, 1) := by decide +kernel
theorem zd71_27 : decode zxm71.2.1 27 = .ok (.invokevirtual 85, 3) := by decide +kernel
theorem zd71_30 : decode zxm71.2.1 30 = .ok (.goto 76, 3) := by decide +kernel
theorem zd71_33 : decode zxm71.2.1 33 = .ok (.iload_n 1, 1) := by decide +kernel
theorem zd71_34 : decode zxm71.2.1 34 = .ok (.bipush 6, 2) := by decide +kernel
theorem zd71_36 : decode zxm71.2.1 36 = .ok (.if_icmp .lt 11, 3) := by decide +kernel
theorem zd71_39 : decode zxm71.2.1 39 = .ok (.aload_n 0, 1) := by decide +kernel
theorem zd71_40 : decode zxm71.2.1 40 = .ok (.iconst 5, 1) := by decide +kernel
theorem zd71_41 : decode zxm71.2.1 41 = .ok (.invokevirtual 57, 3) := by decide +kernel
theorem zd71_44 : decode zxm71.2.1 44 = .ok (.goto 62, 3) := by decide +kernel
theorem zd71_47 : decode zxm71.2.1 47 = .ok (.iload_n 2, 1) := by decide +kernel
theorem zd71_48 : decode zxm71.2.1 48 = .ok (.bipush 33, 2) := by decide +kernel
theorem zd71_50 : decode zxm71.2.1 50 = .ok (.if_icmp .ne 33, 3) := by decide +kernel
theorem zd71_53 : decode zxm71.2.1 53 = .ok (.aload_n 0, 1) := by decide +kernel
theorem zd71_54 : decode zxm71.2.1 54 = .ok (.dup, 1) := by decide +kernel
theorem zd71_55 : decode zxm71.2.1 55 = .ok (.getfield 15, 3) := by decide +kernel
theorem zd71_58 : decode zxm71.2.1 58 = .ok (.iconst 1, 1) := by decide +kernel
theorem zd71_59 : decode zxm71.2.1 59 = .ok (.iadd, 1) := by decide +kernel
theorem zd71_60 : decode zxm71.2.1 60 = .ok (.putfield 15, 3) := by decide +kernel
theorem zd71_63 : decode zxm71.2.1 63 = .ok (.aload_n 0, 1) := by decide +kernel
theorem zd71_64 : decode zxm71.2.1 64 = .ok (.iload_n 1, 1) := by decide +kernel
theorem zd71_65 : decode zxm71.2.1 65 = .ok (.iconst 1, 1) := by decide +kernel
theorem zd71_66 : decode zxm71.2.1 66 = .ok (.iadd, 1) := by decide +kernel
theorem zd71_67 : decode zxm71.2.1 67 = .ok (.invokevirtual 82, 3) := by decide +kernel
theorem zd71_70 : decode zxm71.2.1 70 = .ok (.aload_n 0, 1) := by decide +kernel
theorem zd71_71 : decode zxm71.2.1 71 = .ok (.getfield 25, 3) := by decide +kernel
theorem zd71_74 : decode zxm71.2.1 74 = .ok (.iconst 2, 1) := by decide +kernel
theorem zd71_75 : decode zxm71.2.1 75 = .ok (.iconst 0, 1) := by decide +kernel
theorem zd71_76 : decode zxm71.2.1 76 = .ok (.invokevirtual 76, 3) := by decide +kernel
theorem zd71_79 : decode zxm71.2.1 79 = .ok (.pop, 1) := by decide +kernel
theorem zd71_80 : decode zxm71.2.1 80 = .ok (.goto 26, 3) := by decide +kernel
theorem zd71_83 : decode zxm71.2.1 83 = .ok (.aload_n 0, 1) := by decide +kernel
theorem zd71_84 : decode zxm71.2.1 84 = .ok (.dup, 1) := by decide +kernel
theorem zd71_85 : decode zxm71.2.1 85 = .ok (.getfield 15, 3) := by decide +kernel
theorem zd71_88 : decode zxm71.2.1 88 = .ok (.iconst 1, 1) := by decide +kernel
theorem zd71_89 : decode zxm71.2.1 89 = .ok (.iadd, 1) := by decide +kernel
theorem zd71_90 : decode zxm71.2.1 90 = .ok (.putfield 15, 3) := by decide +kernel
theorem zd71_93 : decode zxm71.2.1 93 = .ok (.aload_n 0, 1) := by decide +kernel
theorem zd71_94 : decode zxm71.2.1 94 = .ok (.iload_n 1, 1) := by decide +kernel
theorem zd71_95 : decode zxm71.2.1 95 = .ok (.iconst 1, 1) := by decide +kernel
theorem zd71_96 : decode zxm71.2.1 96 = .ok (.iadd, 1) := by decide +kernel
theorem zd71_97 : decode zxm71.2.1 97 = .ok (.invokevirtual 66, 3) := by decide +kernel
theorem zd71_100 : decode zxm71.2.1 100 = .ok (.aload_n 0, 1) := by decide +kernel
theorem zd71_101 : decode zxm71.2.1 101 = .ok (.bipush 41, 2) := by decide +kernel
theorem zd71_103 : decode zxm71.2.1 103 = .ok (.invokevirtual 43, 3) := by decide +kernel
theorem zd71_106 : decode zxm71.2.1 106 = .ok (.return_, 1) := by decide +kernel
theorem zts_LawReader_readPiece {dp : Nat} {rc : Nat → Int → Int → Int → Int → Int → (Int → Int) → (Int → Int) → (Int → Int) → Option (Int × Int × Int × (Int → Int) × (Int → Int))} (ih0 : ∀ (x1 : Int) (f0 : Int) (f1 : Int) (f2 : Int) (f4 : Int) (g0 : (Int → Int)) (g1 : (Int → Int)) (g2 : (Int → Int)) (o : Int × Int × Int × (Int → Int) × (Int → Int)), rc 0 x1 f0 f1 f2 f4 g0 g1 g2 = some o → zv_Fn z_TB z_cl z_KX zy_LawReader_readCondition zxm69 (38 + dp, 60 * (38 + dp)) [.inr 0, .inl x1] [.inl f0, .inl f1, .inl f2, .inr 2, .inl f4] [g0, g1, g2] none [.inl o.1, .inl o.2.1, .inl f2, .inr 2, .inl o.2.2.1] [g0, o.2.2.2.1, o.2.2.2.2]) (ih1 : ∀ (x1 : Int) (f0 : Int) (f1 : Int) (f2 : Int) (f4 : Int) (g0 : (Int → Int)) (g1 : (Int → Int)) (g2 : (Int → Int)) (o : Int × Int × Int × (Int → Int) × (Int → Int)), rc 1 x1 f0 f1 f2 f4 g0 g1 g2 = some o → zv_Fn z_TB z_cl z_KX zy_LawReader_readCondition zxm70 (38 + dp, 60 * (38 + dp)) [.inr 0, .inl x1] [.inl f0, .inl f1, .inl f2, .inr 2, .inl f4] [g0, g1, g2] none [.inl o.1, .inl o.2.1, .inl f2, .inr 2, .inl o.2.2.1] [g0, o.2.2.2.1, o.2.2.2.2]) (ih2 : ∀ (x1 : Int) (f0 : Int) (f1 : Int) (f2 : Int) (f4 : Int) (g0 : (Int → Int)) (g1 : (Int → Int)) (g2 : (Int → Int)) (o : Int × Int × Int × (Int → Int) × (Int → Int)), rc 2 x1 f0 f1 f2 f4 g0 g1 g2 = some o → zv_Fn z_TB z_cl z_KX zy_LawReader_readCondition zxm71 (38 + dp, 60 * (38 + dp)) [.inr 0, .inl x1] [.inl f0, .inl f1, .inl f2, .inr 2, .inl f4] [g0, g1, g2] none [.inl o.1, .inl o.2.1, .inl f2, .inr 2, .inl o.2.2.1] [g0, o.2.2.2.1, o.2.2.2.2]) {x1 : Int} {f0 : Int} {f1 : Int} {f2 : Int} {f4 : Int} {g0 : (Int → Int)} {g1 : (Int → Int)} {g2 : (Int → Int)} {o : Int × Int × Int × (Int → Int) × (Int → Int)} (h : zm_LawReader_readPiece rc x1 f0 f1 f2 f4 g0 g1 g2 = some o) : zv_Fn z_TB z_cl z_KX zy_LawReader_readCondition zxm71 (38 + (dp + 1), 60 * (38 + (dp + 1))) [.inr 0, .inl x1] [.inl f0, .inl f1, .inl f2, .inr 2, .inl f4] [g0, g1, g2] none [.inl o.1, .inl o.2.1, .inl f2, .inr 2, .inl o.2.2.1] [g0, o.2.2.2.1, o.2.2.2.2] := zv_meth (K := (z_KF3, z_KC3, z_KL3, z_KT3, [], [], [], none)) (FT := z_FT) (MT := z_MT) (n := 2) zxp71 (z_ks3 _ (fun _ h => List.mem_cons_of_mem _ h) _ _ _ _ (fun j r h _ => by cases h)) (fun _ _ => zs_KX_p) zyw_LawReader_readCondition (fun va F G h => by obtain ⟨rfl, _⟩ := h; rfl) (fun va F G h => by obtain ⟨rfl, _⟩ := h; rfl) rfl fun good va F G hB hret hvret hP => by
  obtain ⟨rfl, rfl, rfl⟩ := hP
  unfold zm_LawReader_readPiece at h
  refine zv_ald hB zd71_0 rfl rfl rfl ?_
  obtain ⟨r1, hr1, h⟩ := zi_bind h
  refine zv_cv hB (zv_emq (va2 := [.inr 0]) (F := [.inl f0, .inl f1, .inl f2, .inr 2, .inl f4]) (F' := [.inl f0, .inl f1, .inl f2, .inr 2, .inl f4]) (G := [g0, g1, g2]) (G' := [g0, g1, g2]) (ρ := [0, 1]) (φ := [1, 2]) (ψ := [0]) [none, some 0, some 1, none, none] [some 0, none, none] zyw_LawReader_peek zyw_LawReader_readCondition zye_LawReader_readCondition (by decide +kernel) (zt_LawReader_peek hr1) ⟨⟨_, rfl, fun _ => rfl⟩, ⟨_, rfl, fun _ => rfl⟩, trivial⟩ ⟨rfl, trivial⟩ rfl rfl rfl rfl rfl rfl rfl) zd71_1 zxt40 rfl (by show 0 + 1 ≤ 38 + (dp + 1); omega) (by show 8 + (1 + 11) + 60 * (0) ≤ 60 * (38 + (dp + 1)); omega) rfl ?_
  refine zv_ist hB zd71_4 rfl rfl rfl ?_
  refine zv_ald hB zd71_5 rfl rfl rfl ?_
  refine zv_getf hB zd71_6 rfl rfl (fun _ _ => ?_)
  refine zv_zeq hB zd71_9 rfl (fun hc2 => ?_) (fun hc2 => ?_)
  · rw [if_pos hc2] at h
    refine zv_ild hB zd71_13 rfl rfl ?_
    refine zv_con hB zd71_14 rfl ?_
    refine zv_ceq hB zd71_16 rfl (fun hc3 => ?_) (fun hc3 => ?_)
    · rw [if_pos hc3] at h
      refine zv_ild hB zd71_33 rfl rfl ?_
      refine zv_con hB zd71_34 rfl ?_
      refine zv_clt hB zd71_36 rfl (fun hc4 => ?_) (fun hc4 => ?_)
      · rw [if_pos hc4] at h
        refine zv_ild hB zd71_47 rfl rfl ?_
        refine zv_con hB zd71_48 rfl ?_
        refine zv_cne hB zd71_50 rfl (fun hc => absurd hc (by omega)) (fun _ => ?_)
        refine zv_ald hB zd71_53 rfl rfl rfl ?_
        refine zv_dup hB zd71_54 rfl ?_
        refine zv_getf hB zd71_55 rfl rfl (fun _ _ => ?_)
        refine zv_con hB zd71_58 rfl ?_
        refine zv_addw hB zd71_59 ?_
        refine zv_putf hB zd71_60 rfl rfl (fun h => by cases h) rfl ?_
        refine zv_ald hB zd71_63 rfl rfl rfl ?_
        refine zv_ild hB zd71_64 rfl rfl ?_
        refine zv_con hB zd71_65 rfl ?_
        refine zv_addw hB zd71_66 ?_
        obtain ⟨r6, hr6, h⟩ := zi_bind h
        refine zv_cv hB (show zv_Fn _ _ _ zy_LawReader_readCondition _ _ [.inr 0, .inl (zi_w (x1 + 1))] [.inl f0, .inl (zi_w (f1 + 1)), .inl f2, .inr 2, .inl f4] [g0, g1, g2] none [.inl r6.1, .inl r6.2.1, .inl f2, .inr 2, .inl r6.2.2.1] [g0, r6.2.2.2.1, r6.2.2.2.2] from ih2 _ _ _ _ _ _ _ _ r6 hr6) zd71_67 zxt71 rfl (by show 38 + dp + 1 ≤ 38 + (dp + 1); omega) (by show 8 + (3 + 11) + 60 * (38 + dp) ≤ 60 * (38 + (dp + 1)); omega) rfl ?_
        refine zv_ald hB zd71_70 rfl rfl rfl ?_
        refine zv_getq hB zd71_71 rfl rfl rfl ?_
        refine zv_con hB zd71_74 rfl ?_
        refine zv_con hB zd71_75 rfl ?_
        obtain ⟨r7, hr7, h⟩ := zi_bind h
        refine zv_cv hB (zv_emq (va2 := [.inr 2, .inl 2, .inl 0]) (F := [.inl r6.1, .inl r6.2.1, .inl f2, .inr 2, .inl r6.2.2.1]) (F' := [.inl r6.1, .inl r6.2.1, .inl f2, .inr 2, .inl r7.2.1]) (G := [g0, r6.2.2.2.1, r6.2.2.2.2]) (G' := [g0, r7.2.2.1, r7.2.2.2]) (ρ := [2, 3, 4]) (φ := [4]) (ψ := [1, 2]) [none, none, none, none, some 0] [none, some 0, some 1] zyw_Law_addStep zyw_LawReader_readCondition zye_LawReader_readCondition (by decide +kernel) (zt_Law_addStep hr7) ⟨⟨_, rfl, fun _ => rfl⟩, trivial⟩ ⟨rfl, rfl, trivial⟩ rfl rfl rfl rfl rfl rfl rfl) zd71_76 zxt49 rfl (by show 0 + 1 ≤ 38 + (dp + 1); omega) (by show 8 + (3 + 11) + 60 * (0) ≤ 60 * (38 + (dp + 1)); omega) rfl ?_
        refine zv_pop hB zd71_79 rfl ?_
        refine zv_goto hB zd71_80 rfl ?_
        have hw := Option.some.inj h
        subst hw
        exact hvret _ _ _ _ zd71_106 trivial ⟨rfl, rfl, rfl⟩
      · rw [if_neg (Int.not_lt.mpr hc4)] at h
        refine zv_ald hB zd71_39 rfl rfl rfl ?_
        refine zv_con hB zd71_40 rfl ?_
        obtain ⟨r8, hr8, h⟩ := zi_bind h
        refine zv_cv hB (zv_emq (va2 := [.inr 0, .inl 5]) (F := [.inl f0, .inl f1, .inl f2, .inr 2, .inl f4]) (F' := [.inl r8, .inl f1, .inl f2, .inr 2, .inl f4]) (G := [g0, g1, g2]) (G' := [g0, g1, g2]) (ρ := [0]) (φ := [0, 1]) (ψ := []) [some 0, some 1, none, none, none] [none, none, none] zyw_LawReader_fail zyw_LawReader_readCondition zye_LawReader_readCondition (by decide +kernel) (zt_LawReader_fail hr8) ⟨⟨_, rfl, fun _ => rfl⟩, ⟨_, rfl, fun _ => rfl⟩, trivial⟩ trivial rfl rfl rfl rfl rfl rfl rfl) zd71_41 zxt41 rfl (by show 1 + 1 ≤ 38 + (dp + 1); omega) (by show 8 + (2 + 11) + 60 * (1) ≤ 60 * (38 + (dp + 1)); omega) rfl ?_
        refine zv_goto hB zd71_44 rfl ?_
        have hw := Option.some.inj h
        subst hw
        exact hvret _ _ _ _ zd71_106 trivial ⟨rfl, rfl, rfl⟩
    · rw [if_neg hc3] at h
      refine zv_ild hB zd71_19 rfl rfl ?_
      refine zv_con hB zd71_20 rfl ?_
      refine zv_ceq hB zd71_22 rfl (fun hc9 => ?_) (fun hc9 => ?_)
      · rw [if_pos hc9] at h
        refine zv_ild hB zd71_33 rfl rfl ?_
        refine zv_con hB zd71_34 rfl ?_
        refine zv_clt hB zd71_36 rfl (fun hc10 => ?_) (fun hc10 => ?_)
        · rw [if_pos hc10] at h
          refine zv_ild hB zd71_47 rfl rfl ?_
          refine zv_con hB zd71_48 rfl ?_
          refine zv_cne hB zd71_50 rfl (fun _ => ?_) (fun hc => absurd hc (by omega))
          refine zv_ald hB zd71_83 rfl rfl rfl ?_
          refine zv_dup hB zd71_84 rfl ?_
          refine zv_getf hB zd71_85 rfl rfl (fun _ _ => ?_)
          refine zv_con hB zd71_88 rfl ?_
          refine zv_addw hB zd71_89 ?_
          refine zv_putf hB zd71_90 rfl rfl (fun h => by cases h) rfl ?_
          refine zv_ald hB zd71_93 rfl rfl rfl ?_
          refine zv_ild hB zd71_94 rfl rfl ?_
          refine zv_con hB zd71_95 rfl ?_
          refine zv_addw hB zd71_96 ?_
          obtain ⟨r12, hr12, h⟩ := zi_bind h
          refine zv_cv hB (show zv_Fn _ _ _ zy_LawReader_readCondition _ _ [.inr 0, .inl (zi_w (x1 + 1))] [.inl f0, .inl (zi_w (f1 + 1)), .inl f2, .inr 2, .inl f4] [g0, g1, g2] none [.inl r12.1, .inl r12.2.1, .inl f2, .inr 2, .inl r12.2.2.1] [g0, r12.2.2.2.1, r12.2.2.2.2] from ih0 _ _ _ _ _ _ _ _ r12 hr12) zd71_97 zxt69 rfl (by show 38 + dp + 1 ≤ 38 + (dp + 1); omega) (by show 8 + (3 + 11) + 60 * (38 + dp) ≤ 60 * (38 + (dp + 1)); omega) rfl ?_
          refine zv_ald hB zd71_100 rfl rfl rfl ?_
          refine zv_con hB zd71_101 rfl ?_
          obtain ⟨r13, hr13, h⟩ := zi_bind h
          refine zv_cv hB (zv_emq (va2 := [.inr 0, .inl 41]) (F := [.inl r12.1, .inl r12.2.1, .inl f2, .inr 2, .inl r12.2.2.1]) (F' := [.inl r13.1, .inl r13.2, .inl f2, .inr 2, .inl r12.2.2.1]) (G := [g0, r12.2.2.2.1, r12.2.2.2.2]) (G' := [g0, r12.2.2.2.1, r12.2.2.2.2]) (ρ := [0, 1]) (φ := [0, 1, 2]) (ψ := [0]) [some 0, some 1, some 2, none, none] [some 0, none, none] zyw_LawReader_skip zyw_LawReader_readCondition zye_LawReader_readCondition (by decide +kernel) (zt_LawReader_skip hr13) ⟨⟨_, rfl, fun _ => rfl⟩, ⟨_, rfl, fun _ => rfl⟩, ⟨_, rfl, fun _ => rfl⟩, trivial⟩ ⟨rfl, trivial⟩ rfl rfl rfl rfl rfl rfl rfl) zd71_103 zxt46 rfl (by show 2 + 1 ≤ 38 + (dp + 1); omega) (by show 8 + (2 + 11) + 60 * (2) ≤ 60 * (38 + (dp + 1)); omega) rfl ?_
          have hw := Option.some.inj h
          subst hw
          exact hvret _ _ _ _ zd71_106 trivial ⟨rfl, rfl, rfl⟩
        · rw [if_neg (Int.not_lt.mpr hc10)] at h
          refine zv_ald hB zd71_39 rfl rfl rfl ?_
          refine zv_con hB zd71_40 rfl ?_
          obtain ⟨r14, hr14, h⟩ := zi_bind h
          refine zv_cv hB (zv_emq (va2 := [.inr 0, .inl 5]) (F := [.inl f0, .inl f1, .inl f2, .inr 2, .inl f4]) (F' := [.inl r14, .inl f1, .inl f2, .inr 2, .inl f4]) (G := [g0, g1, g2]) (G' := [g0, g1, g2]) (ρ := [0]) (φ := [0, 1]) (ψ := []) [some 0, some 1, none, none, none] [none, none, none] zyw_LawReader_fail zyw_LawReader_readCondition zye_LawReader_readCondition (by decide +kernel) (zt_LawReader_fail hr14) ⟨⟨_, rfl, fun _ => rfl⟩, ⟨_, rfl, fun _ => rfl⟩, trivial⟩ trivial rfl rfl rfl rfl rfl rfl rfl) zd71_41 zxt41 rfl (by show 1 + 1 ≤ 38 + (dp + 1); omega) (by show 8 + (2 + 11) + 60 * (1) ≤ 60 * (38 + (dp + 1)); omega) rfl ?_
          refine zv_goto hB zd71_44 rfl ?_
          have hw := Option.some.inj h
          subst hw
          exact hvret _ _ _ _ zd71_106 trivial ⟨rfl, rfl, rfl⟩
      · rw [if_neg hc9] at h
        refine zv_ald hB zd71_25 rfl rfl rfl ?_
        refine zv_ild hB zd71_26 rfl rfl ?_
        obtain ⟨r15, hr15, h⟩ := zi_bind h
        refine zv_cv hB (zv_emq (va2 := [.inr 0, .inl x1]) (F := [.inl f0, .inl f1, .inl f2, .inr 2, .inl f4]) (F' := [.inl r15.1, .inl r15.2.1, .inl f2, .inr 2, .inl r15.2.2.1]) (G := [g0, g1, g2]) (G' := [g0, r15.2.2.2.1, r15.2.2.2.2]) (ρ := [0, 1, 2, 3, 4]) (φ := [3, 0, 1, 2, 4]) (ψ := [0, 1, 2]) [some 1, some 2, some 3, some 0, some 4] [some 0, some 1, some 2] zyw_LawReader_readComparison zyw_LawReader_readCondition zye_LawReader_readCondition (by decide +kernel) (zt_LawReader_readComparison hr15) ⟨⟨_, rfl, fun _ => rfl⟩, ⟨_, rfl, fun _ => rfl⟩, ⟨_, rfl, fun _ => rfl⟩, ⟨_, rfl, fun _ => rfl⟩, ⟨_, rfl, fun _ => rfl⟩, trivial⟩ ⟨rfl, rfl, rfl, trivial⟩ rfl rfl rfl rfl rfl rfl rfl) zd71_27 zxt72 rfl (by show 37 + 1 ≤ 38 + (dp + 1); omega) (by show 8 + (3 + 11) + 60 * (37) ≤ 60 * (38 + (dp + 1)); omega) rfl ?_
        refine zv_goto hB zd71_30 rfl ?_
        have hw := Option.some.inj h
        subst hw
        exact hvret _ _ _ _ zd71_106 trivial ⟨rfl, rfl, rfl⟩
  · rw [if_neg hc2] at h
    have hw := Option.some.inj h
    subst hw
    exact hvret _ _ _ _ zd71_12 trivial ⟨rfl, rfl, rfl⟩
def zg_LawReader_readCondition : Nat → Nat → Int → Int → Int → Int → Int → (Int → Int) → (Int → Int) → (Int → Int) → Option (Int × Int × Int × (Int → Int) × (Int → Int))
  | 0, _, _, _, _, _, _, _, _, _ => none
  | n + 1, 0, x1, f0, f1, f2, f4, g0, g1, g2 => zm_LawReader_readCondition (zg_LawReader_readCondition n) x1 f0 f1 f2 f4 g0 g1 g2
  | n + 1, 1, x1, f0, f1, f2, f4, g0, g1, g2 => zm_LawReader_readPart (zg_LawReader_readCondition n) x1 f0 f1 f2 f4 g0 g1 g2
  | n + 1, _, x1, f0, f1, f2, f4, g0, g1, g2 => zm_LawReader_readPiece (zg_LawReader_readCondition n) x1 f0 f1 f2 f4 g0 g1 g2
theorem ztg_LawReader_readCondition : ∀ n : Nat, (∀ (x1 : Int) (f0 : Int) (f1 : Int) (f2 : Int) (f4 : Int) (g0 : (Int → Int)) (g1 : (Int → Int)) (g2 : (Int → Int)) (o : Int × Int × Int × (Int → Int) × (Int → Int)), zg_LawReader_readCondition n 0 x1 f0 f1 f2 f4 g0 g1 g2 = some o → zv_Fn z_TB z_cl z_KX zy_LawReader_readCondition zxm69 (38 + n, 60 * (38 + n)) [.inr 0, .inl x1] [.inl f0, .inl f1, .inl f2, .inr 2, .inl f4] [g0, g1, g2] none [.inl o.1, .inl o.2.1, .inl f2, .inr 2, .inl o.2.2.1] [g0, o.2.2.2.1, o.2.2.2.2]) ∧ (∀ (x1 : Int) (f0 : Int) (f1 : Int) (f2 : Int) (f4 : Int) (g0 : (Int → Int)) (g1 : (Int → Int)) (g2 : (Int → Int)) (o : Int × Int × Int × (Int → Int) × (Int → Int)), zg_LawReader_readCondition n 1 x1 f0 f1 f2 f4 g0 g1 g2 = some o → zv_Fn z_TB z_cl z_KX zy_LawReader_readCondition zxm70 (38 + n, 60 * (38 + n)) [.inr 0, .inl x1] [.inl f0, .inl f1, .inl f2, .inr 2, .inl f4] [g0, g1, g2] none [.inl o.1, .inl o.2.1, .inl f2, .inr 2, .inl o.2.2.1] [g0, o.2.2.2.1, o.2.2.2.2]) ∧ (∀ (x1 : Int) (f0 : Int) (f1 : Int) (f2 : Int) (f4 : Int) (g0 : (Int → Int)) (g1 : (Int → Int)) (g2 : (Int → Int)) (o : Int × Int × Int × (Int → Int) × (Int → Int)), zg_LawReader_readCondition n 2 x1 f0 f1 f2 f4 g0 g1 g2 = some o → zv_Fn z_TB z_cl z_KX zy_LawReader_readCondition zxm71 (38 + n, 60 * (38 + n)) [.inr 0, .inl x1] [.inl f0, .inl f1, .inl f2, .inr 2, .inl f4] [g0, g1, g2] none [.inl o.1, .inl o.2.1, .inl f2, .inr 2, .inl o.2.2.1] [g0, o.2.2.2.1, o.2.2.2.2]) := by
  intro n
  induction n with
  | zero => exact ⟨fun _ _ _ _ _ _ _ _ o h => absurd (show none = some o from h) (fun h => by cases h), fun _ _ _ _ _ _ _ _ o h => absurd (show none = some o from h) (fun h => by cases h), fun _ _ _ _ _ _ _ _ o h => absurd (show none = some o from h) (fun h => by cases h)⟩
  | succ n ih =>
    obtain ⟨ih0, ih1, ih2⟩ := ih
    exact ⟨fun _ _ _ _ _ _ _ _ o h => zts_LawReader_readCondition (rc := zg_LawReader_readCondition n) ih0 ih1 ih2 h, fun _ _ _ _ _ _ _ _ o h => zts_LawReader_readPart (rc := zg_LawReader_readCondition n) ih0 ih1 ih2 h, fun _ _ _ _ _ _ _ _ o h => zts_LawReader_readPiece (rc := zg_LawReader_readCondition n) ih0 ih1 ih2 h⟩
def zf_LawReader_readCondition (x1 : Int) (f0 : Int) (f1 : Int) (f2 : Int) (f4 : Int) (g0 : (Int → Int)) (g1 : (Int → Int)) (g2 : (Int → Int)) : Option (Int × Int × Int × (Int → Int) × (Int → Int)) := zg_LawReader_readCondition 40 0 x1 f0 f1 f2 f4 g0 g1 g2
theorem zt_LawReader_readCondition {x1 : Int} {f0 : Int} {f1 : Int} {f2 : Int} {f4 : Int} {g0 : (Int → Int)} {g1 : (Int → Int)} {g2 : (Int → Int)} {o : Int × Int × Int × (Int → Int) × (Int → Int)} (h : zf_LawReader_readCondition x1 f0 f1 f2 f4 g0 g1 g2 = some o) : zv_Fn z_TB z_cl z_KX zy_LawReader_readCondition zxm69 (78, 4680) [.inr 0, .inl x1] [.inl f0, .inl f1, .inl f2, .inr 2, .inl f4] [g0, g1, g2] none [.inl o.1, .inl o.2.1, .inl f2, .inr 2, .inl o.2.2.1] [g0, o.2.2.2.1, o.2.2.2.2] := (ztg_LawReader_readCondition 40).1 _ _ _ _ _ _ _ _ o h
def zf_LawReader_readPart (x1 : Int) (f0 : Int) (f1 : Int) (f2 : Int) (f4 : Int) (g0 : (Int → Int)) (g1 : (Int → Int)) (g2 : (Int → Int)) : Option (Int × Int × Int × (Int → Int) × (Int → Int)) := zg_LawReader_readCondition 40 1 x1 f0 f1 f2 f4 g0 g1 g2
theorem zt_LawReader_readPart {x1 : Int} {f0 : Int} {f1 : Int} {f2 : Int} {f4 : Int} {g0 : (Int → Int)} {g1 : (Int → Int)} {g2 : (Int → Int)} {o : Int × Int × Int × (Int → Int) × (Int → Int)} (h : zf_LawReader_readPart x1 f0 f1 f2 f4 g0 g1 g2 = some o) : zv_Fn z_TB z_cl z_KX zy_LawReader_readCondition zxm70 (78, 4680) [.inr 0, .inl x1] [.inl f0, .inl f1, .inl f2, .inr 2, .inl f4] [g0, g1, g2] none [.inl o.1, .inl o.2.1, .inl f2, .inr 2, .inl o.2.2.1] [g0, o.2.2.2.1, o.2.2.2.2] := (ztg_LawReader_readCondition 40).2.1 _ _ _ _ _ _ _ _ o h
def zf_LawReader_readPiece (x1 : Int) (f0 : Int) (f1 : Int) (f2 : Int) (f4 : Int) (g0 : (Int → Int)) (g1 : (Int → Int)) (g2 : (Int → Int)) : Option (Int × Int × Int × (Int → Int) × (Int → Int)) := zg_LawReader_readCondition 40 2 x1 f0 f1 f2 f4 g0 g1 g2
theorem zt_LawReader_readPiece {x1 : Int} {f0 : Int} {f1 : Int} {f2 : Int} {f4 : Int} {g0 : (Int → Int)} {g1 : (Int → Int)} {g2 : (Int → Int)} {o : Int × Int × Int × (Int → Int) × (Int → Int)} (h : zf_LawReader_readPiece x1 f0 f1 f2 f4 g0 g1 g2 = some o) : zv_Fn z_TB z_cl z_KX zy_LawReader_readCondition zxm71 (78, 4680) [.inr 0, .inl x1] [.inl f0, .inl f1, .inl f2, .inr 2, .inl f4] [g0, g1, g2] none [.inl o.1, .inl o.2.1, .inl f2, .inr 2, .inl o.2.2.1] [g0, o.2.2.2.1, o.2.2.2.2] := (ztg_LawReader_readCondition 40).2.2 _ _ _ _ _ _ _ _ o h
/-! Law_hasLetter (II)Z -/
-- names: 0 Law('arg', 0), 1 (0, 200)(0, 4, 0), 2 (0, 200)(0, 4, 1)
-- fields: f0 = 0.steps_; arrays: g0 = 1, g1 = 2; out: [('ret', None)]
abbrev zy_Law_hasLetter : zNL := (3, [(0, 4)], [(0, 4, 2, 0)], [(0, 4, 0, 1), (0, 4, 1, 2)], [(1, 0, 200, 0), (2, 0, 200, 1)])
theorem zyw_Law_hasLetter : zv_wf zy_Law_hasLetter = true := by decide +kernel
theorem zye_Law_hasLetter : zv_ek2 zy_Law_hasLetter = true := by decide +kernel
def zf_Law_hasLetter_l0_b (x2 : Int) (f0 : Int) (g0 : (Int → Int)) (g1 : (Int → Int)) (rec : Int → Option (((Unit) ⊕ (Int)))) (x3 : Int) : Option (((Unit) ⊕ (Int))) := if x3 < f0 then (cond (zi_ix x3 200) (if (g0 x3) = 1 then (if (g1 x3) = x2 then (some (.inr 1)) else (rec (zi_w (x3 + 1)))) else (rec (zi_w (x3 + 1)))) none) else (some (.inl ()))
def zf_Law_hasLetter_l0 (x2 : Int) (f0 : Int) (g0 : (Int → Int)) (g1 : (Int → Int)) : Nat → Int → Option (((Unit) ⊕ (Int)))
  | 0, _ => none
  | n + 1, x3 => zf_Law_hasLetter_l0_b x2 f0 g0 g1 (zf_Law_hasLetter_l0 x2 f0 g0 g1 n) x3
def zf_Law_hasLetter (x1 : Int) (x2 : Int) (f0 : Int) (g0 : (Int → Int)) (g1 : (Int → Int)) : Option (Int) := (zf_Law_hasLetter_l0 x2 f0 g0 g1 zi_fu x1).bind fun q5 => Sum.elim (fun e6 => (some 0)) (fun w7 => some w7) q5
theorem zd75_0 : decode zxm75.2.1 0 = .ok (.iload_n 1, 1) := by decide +kernel
theorem zd75_1 : decode zxm75.2.1 1 = .ok (.istore_n 3, 1) := by decide +kernel
theorem zd75_2 : decode zxm75.2.1 2 = .ok (.iload_n 3, 1) := by decide +kernel
theorem zd75_3 : decode zxm75.2.1 3 = .ok (.aload_n 0, 1) := by decide +kernel
theorem zd75_4 : decode zxm75.2.1 4 = .ok (.getfield 16, 3) := by decide +kernel
theorem zd75_7 : decode zxm75.2.1 7 = .ok (.if_icmp .ge 31, 3) := by decide +kernel
theorem zd75_10 : decode zxm75.2.1 10 = .ok (.aload_n 0, 1) := by decide +kernel
theorem zd75_11 : decode zxm75.2.1 11 = .ok (.getfield 9, 3) := by decide +kernel
theorem zd75_14 : decode zxm75.2.1 14 = .ok (.iload_n 3, 1) := by decide +kernel
theorem zd75_15 : decode zxm75.2.1 15 = .ok (.iaload, 1) := by decide +kernel
theorem zd75_16 : decode zxm75.2.1 16 = .ok (.iconst 1, 1) := by decide +kernel
theorem zd75_17 : decode zxm75.2.1 17 = .ok (.if_icmp .ne 15, 3) := by decide +kernel
theorem zd75_20 : decode zxm75.2.1 20 = .ok (.aload_n 0, 1) := by decide +kernel
theorem zd75_21 : decode zxm75.2.1 21 = .ok (.getfield 13, 3) := by decide +kernel
theorem zd75_24 : decode zxm75.2.1 24 = .ok (.iload_n 3, 1) := by decide +kernel
theorem zd75_25 : decode zxm75.2.1 25 = .ok (.iaload, 1) := by decide +kernel
theorem zd75_26 : decode zxm75.2.1 26 = .ok (.iload_n 2, 1) := by decide +kernel
theorem zd75_27 : decode zxm75.2.1 27 = .ok (.if_icmp .ne 5, 3) := by decide +kernel
theorem zd75_30 : decode zxm75.2.1 30 = .ok (.iconst 1, 1) := by decide +kernel
theorem zd75_31 : decode zxm75.2.1 31 = .ok (.ireturn, 1) := by decide +kernel
theorem zd75_32 : decode zxm75.2.1 32 = .ok (.iinc 3 1, 3) := by decide +kernel
theorem zd75_35 : decode zxm75.2.1 35 = .ok (.goto (-33), 3) := by decide +kernel
theorem zd75_38 : decode zxm75.2.1 38 = .ok (.iconst 0, 1) := by decide +kernel
theorem zd75_39 : decode zxm75.2.1 39 = .ok (.ireturn, 1) := by decide +kernel
theorem zt_Law_hasLetter {x1 : Int} {x2 : Int} {f0 : Int} {g0 : (Int → Int)} {g1 : (Int → Int)} {o : Int} (h : zf_Law_hasLetter x1 x2 f0 g0 g1 = some o) : zv_Fn z_TB z_cl z_KX zy_Law_hasLetter zxm75 (0, 0) [.inr 0, .inl x1, .inl x2] [.inl f0] [g0, g1] (some o) [.inl f0] [g0, g1] := zv_meth (K := (z_KF2, z_KC2, z_KL2, z_KT2, [], [], [], none)) (FT := z_FT) (MT := z_MT) (n := 3) zxp75 (z_ks2 _ (fun _ h => List.mem_cons_of_mem _ h) _ _ _ _ (fun j r h _ => by cases h)) (fun _ _ => zs_KX_p) zyw_Law_hasLetter (fun va F G h => by obtain ⟨rfl, _⟩ := h; rfl) (fun va F G h => by obtain ⟨rfl, _⟩ := h; rfl) rfl fun good va F G hB hret hvret hP => by
  obtain ⟨rfl, rfl, rfl⟩ := hP
  have l0 : ∀ (n : Nat) (x2 : Int) (x3 : Int) (q : ((Unit) ⊕ (Int))), zf_Law_hasLetter_l0 x2 f0 g0 g1 n x3 = some q → (Sum.elim (fun e : Unit => good 38 [.inr 1000, .inr 1000, .inr 1000, .inr 1000] [] [.inl f0] [g0, g1]) (fun w : Int => w = o) q) → good 2 [.inr 0, .inr 1000, .inl x2, .inl x3] [] [.inl f0] [g0, g1] := by
    intro n
    induction n with
    | zero => intro x2 x3 q h; exact absurd (show none = some q from h) (fun h => by cases h)
    | succ n ih =>
      intro x2 x3 q h hK
      replace h : zf_Law_hasLetter_l0_b x2 f0 g0 g1 (zf_Law_hasLetter_l0 x2 f0 g0 g1 n) x3 = some q := h
      unfold zf_Law_hasLetter_l0_b at h
      refine zv_ild hB zd75_2 rfl rfl ?_
      refine zv_ald hB zd75_3 rfl rfl rfl ?_
      refine zv_getf hB zd75_4 rfl rfl (fun _ _ => ?_)
      refine zv_cge hB zd75_7 rfl (fun hc1 => ?_) (fun hc1 => ?_)
      · rw [if_neg (Int.not_lt.mpr hc1)] at h
        have hq := Option.some.inj h
        subst hq
        refine zv_wk hB (L' := [.inr 1000, .inr 1000, .inr 1000, .inr 1000]) (F' := [.inl f0]) ⟨fun (h : zv_is (.inr 1000)) => (Nat.lt_irrefl 1000 h).elim, fun (h : zv_is (.inr 1000)) => (Nat.lt_irrefl 1000 h).elim, fun (h : zv_is (.inr 1000)) => (Nat.lt_irrefl 1000 h).elim, fun (h : zv_is (.inr 1000)) => (Nat.lt_irrefl 1000 h).elim, trivial⟩ ⟨fun _ => rfl, trivial⟩ ?_
        exact hK
      · rw [if_pos hc1] at h
        refine zv_ald hB zd75_10 rfl rfl rfl ?_
        refine zv_getr hB zd75_11 rfl ?_
        refine zv_ild hB zd75_14 rfl rfl ?_
        obtain ⟨c2, h⟩ := zi_if h
        refine zv_iald hB zd75_15 rfl rfl (zi_ix_ok c2).1 (zi_ix_ok c2).2 (fun _ _ => ?_)
        refine zv_con hB zd75_16 rfl ?_
        refine zv_cne hB zd75_17 rfl (fun hc3 => ?_) (fun hc3 => ?_)
        · rw [if_neg hc3] at h
          refine zv_iincw hB zd75_32 rfl rfl ?_
          refine zv_goto hB zd75_35 rfl ?_
          exact ih _ _ q h hK
        · rw [if_pos hc3] at h
          refine zv_ald hB zd75_20 rfl rfl rfl ?_
          refine zv_getr hB zd75_21 rfl ?_
          refine zv_ild hB zd75_24 rfl rfl ?_
          refine zv_iald hB zd75_25 rfl rfl (zi_ix_ok c2).1 (zi_ix_ok c2).2 (fun _ _ => ?_)
          refine zv_ild hB zd75_26 rfl rfl ?_
          refine zv_cne hB zd75_27 rfl (fun hc4 => ?_) (fun hc4 => ?_)
          · rw [if_neg hc4] at h
            refine zv_iincw hB zd75_32 rfl rfl ?_
            refine zv_goto hB zd75_35 rfl ?_
            exact ih _ _ q h hK
          · rw [if_pos hc4] at h
            refine zv_con hB zd75_30 rfl ?_
            have hw : 1 = o := zi_rk (Option.some.inj h) hK
            subst hw
            exact hret _ _ _ _ _ zd75_31 (by constructor <;> decide) ⟨rfl, rfl, rfl⟩
  unfold zf_Law_hasLetter at h
  refine zv_ild hB zd75_0 rfl rfl ?_
  refine zv_ist hB zd75_1 rfl rfl rfl ?_
  obtain ⟨q5, hq5, h⟩ := zi_bind h
  refine zv_wk hB (L' := [.inr 0, .inr 1000, .inl x2, .inl x1]) (F' := [.inl f0]) ⟨fun _ => rfl, fun (h : zv_is (.inr 1000)) => (Nat.lt_irrefl 1000 h).elim, fun _ => rfl, fun _ => rfl, trivial⟩ ⟨fun _ => rfl, trivial⟩ ?_
  refine l0 _ _ _ q5 hq5 ?_
  rcases q5 with e6 | w7
  · replace h := zi_sl h
    show good 38 [.inr 1000, .inr 1000, .inr 1000, .inr 1000] [] [.inl f0] [g0, g1]
    refine zv_con hB zd75_38 rfl ?_
    have hw := Option.some.inj h
    subst hw
    exact hret _ _ _ _ _ zd75_39 (by constructor <;> decide) ⟨rfl, rfl, rfl⟩
  · exact Option.some.inj h
end
section
/-! Methods as functions, and that they do what these do. -/
/-! Law_addClause (III)V -/
-- names: 0 Law('arg', 0), 1 (0, 14)(0, 4, 3), 2 (0, 14)(0, 4, 4), 3 (0, 14)(0, 4, 5), 4 (0, 14)(0, 4, 6), 5 (0, 200)(0, 4, 0), 6 (0, 200)(0, 4, 1)
-- fields: f0 = 0.clauses_, f1 = 0.steps_, f2 = 0.tellsLines_, f3 = 0.linesByPlace_, f4 = 0.tellsSeen_, f5 = 0.seenByPlace_; arrays: g0 = 1, g1 = 2, g2 = 3, g3 = 4, g4 = 5, g5 = 6; out: [('f', 0), ('f', 2), ('f', 3), ('f', 4), ('f', 5), ('g', 0), ('g', 1), ('g', 2), ('g', 3)]
abbrev zy_Law_addClause : zNL := (7, [(0, 4)], [(0, 4, 7, 0), (0, 4, 2, 1), (0, 4, 9, 2), (0, 4, 11, 3), (0, 4, 8, 4), (0, 4, 10, 5)], [(0, 4, 3, 1), (0, 4, 4, 2), (0, 4, 5, 3), (0, 4, 6, 4), (0, 4, 0, 5), (0, 4, 1, 6)], [(1, 0, 14, 0), (2, 0, 14, 1), (3, 0, 14, 2), (4, 0, 14, 3), (5, 0, 200, 4), (6, 0, 200, 5)])
theorem zyw_Law_addClause : zv_wf zy_Law_addClause = true := by decide +kernel
theorem zye_Law_addClause : zv_ek2 zy_Law_addClause = true := by decide +kernel
def zf_Law_addClause (x1 : Int) (x2 : Int) (x3 : Int) (f0 : Int) (f1 : Int) (f2 : Int) (f3 : Int) (f4 : Int) (f5 : Int) (g0 : (Int → Int)) (g1 : (Int → Int)) (g2 : (Int → Int)) (g3 : (Int → Int)) (g4 : (Int → Int)) (g5 : (Int → Int)) : Option (Int × Int × Int × Int × Int × (Int → Int) × (Int → Int) × (Int → Int) × (Int → Int)) := if f0 < 14 then (cond (zi_ix f0 14) (if x1 = 118 then (if f5 = 0 then ((zf_Law_hasLetter x3 10 f1 g4 g5).bind fun r11 => (if r11 = 0 then ((zf_Law_hasLetter x3 11 f1 g4 g5).bind fun r13 => (if r13 = 0 then ((zf_Law_hasLetter x3 12 f1 g4 g5).bind fun r15 => (if r15 = 0 then (some ((zi_w (f0 + 1)), f2, f3, 1, 0, (zv_up g0 f0 x1), (zv_up g1 f0 x2), (zv_up g2 f0 x3), (zv_up g3 f0 f1))) else (some ((zi_w (f0 + 1)), f2, f3, 1, 1, (zv_up g0 f0 x1), (zv_up g1 f0 x2), (zv_up g2 f0 x3), (zv_up g3 f0 f1))))) else (some ((zi_w (f0 + 1)), f2, f3, 1, 1, (zv_up g0 f0 x1), (zv_up g1 f0 x2), (zv_up g2 f0 x3), (zv_up g3 f0 f1))))) else (some ((zi_w (f0 + 1)), f2, f3, 1, 1, (zv_up g0 f0 x1), (zv_up g1 f0 x2), (zv_up g2 f0 x3), (zv_up g3 f0 f1))))) else (some ((zi_w (f0 + 1)), f2, f3, 1, 1, (zv_up g0 f0 x1), (zv_up g1 f0 x2), (zv_up g2 f0 x3), (zv_up g3 f0 f1)))) else (if x1 = 106 then (if f3 = 0 then ((zf_Law_hasLetter x3 10 f1 g4 g5).bind fun r6 => (if r6 = 0 then ((zf_Law_hasLetter x3 11 f1 g4 g5).bind fun r8 => (if r8 = 0 then (some ((zi_w (f0 + 1)), 1, 0, f4, f5, (zv_up g0 f0 x1), (zv_up g1 f0 x2), (zv_up g2 f0 x3), (zv_up g3 f0 f1))) else (some ((zi_w (f0 + 1)), 1, 1, f4, f5, (zv_up g0 f0 x1), (zv_up g1 f0 x2), (zv_up g2 f0 x3), (zv_up g3 f0 f1))))) else (some ((zi_w (f0 + 1)), 1, 1, f4, f5, (zv_up g0 f0 x1), (zv_up g1 f0 x2), (zv_up g2 f0 x3), (zv_up g3 f0 f1))))) else (some ((zi_w (f0 + 1)), 1, 1, f4, f5, (zv_up g0 f0 x1), (zv_up g1 f0 x2), (zv_up g2 f0 x3), (zv_up g3 f0 f1)))) else (some ((zi_w (f0 + 1)), f2, f3, f4, f5, (zv_up g0 f0 x1), (zv_up g1 f0 x2), (zv_up g2 f0 x3), (zv_up g3 f0 f1))))) none) else (some (f0, f2, f3, f4, f5, g0, g1, g2, g3))
theorem zd74_0 : decode zxm74.2.1 0 = .ok (.aload_n 0, 1) := by decide +kernel
theorem zd74_1 : decode zxm74.2.1 1 = .ok (.getfield 32, 3) := by decide +kernel
theorem zd74_4 : decode zxm74.2.1 4 = .ok (.bipush 14, 2) := by decide +kernel
theorem zd74_6 : decode zxm74.2.1 6 = .ok (.if_icmp .lt 4, 3) := by decide +kernel
theorem zd74_9 : decode zxm74.2.1 9 = .ok (.return_, 1) := by decide +kernel
theorem zd74_10 : decode zxm74.2.1 10 = .ok (.aload_n 0, 1) := by decide +kernel
theorem zd74_11 : decode zxm74.2.1 11 = .ok (.getfield 20, 3) := by decide +kernel
theorem zd74_14 : decode zxm74.2.1 14 = .ok (.aload_n 0, 1) := by decide +kernel
theorem zd74_15 : decode zxm74.2.1 15 = .ok (.getfield 32, 3) := by decide +kernel
theorem zd74_18 : decode zxm74.2.1 18 = .ok (.iload_n 1, 1) := by decide +kernel
theorem zd74_19 : decode zxm74.2.1 19 = .ok (.iastore, 1) := by decide +kernel
theorem zd74_20 : decode zxm74.2.1 20 = .ok (.aload_n 0, 1) := by decide +kernel
theorem zd74_21 : decode zxm74.2.1 21 = .ok (.getfield 23, 3) := by decide +kernel
theorem zd74_24 : decode zxm74.2.1 24 = .ok (.aload_n 0, 1) := by decide +kernel
theorem zd74_25 : decode zxm74.2.1 25 = .ok (.getfield 32, 3) := by decide +kernel
theorem zd74_28 : decode zxm74.2.1 28 = .ok (.iload_n 2, 1) := by decide +kernel
theorem zd74_29 : decode zxm74.2.1 29 = .ok (.iastore, 1) := by decide +kernel
theorem zd74_30 : decode zxm74.2.1 30 = .ok (.aload_n 0, 1) := by decide +kernel
theorem zd74_31 : decode zxm74.2.1 31 = .ok (.getfield 26, 3) := by decide +kernel
theorem zd74_34 : decode zxm74.2.1 34 = .ok (.aload_n 0, 1) := by decide +kernel
theorem zd74_35 : decode zxm74.2.1 35 = .ok (.getfield 32, 3) := by decide +kernel
theorem zd74_38 : decode zxm74.2.1 38 = .ok (.iload_n 3, 1) := by decide +kernel
theorem zd74_39 : decode zxm74.2.1 39 = .ok (.iastore, 1) := by decide +kernel
theorem zd74_40 : decode zxm74.2.1 40 = .ok (.aload_n 0, 1) := by decide +kernel
theorem zd74_41 : decode zxm74.2.1 41 = .ok (.getfield 29, 3) := by decide +kernel
theorem zd74_44 : decode zxm74.2.1 44 = .ok (.aload_n 0, 1) := by decide +kernel
theorem zd74_45 : decode zxm74.2.1 45 = .ok (.getfield 32, 3) := by decide +kernel
theorem zd74_48 : decode zxm74.2.1 48 = .ok (.aload_n 0, 1) := by decide +kernel
theorem zd74_49 : decode zxm74.2.1 49 = .ok (.getfield 16, 3) := by decide +kernel
theorem zd74_52 : decode zxm74.2.1 52 = .ok (.iastore, 1) := by decide +kernel
theorem zd74_53 : decode zxm74.2.1 53 = .ok (.aload_n 0, 1) := by decide +kernel
theorem zd74_54 : decode zxm74.2.1 54 = .ok (.dup, 1) := by decide +kernel
theorem zd74_55 : decode zxm74.2.1 55 = .ok (.getfield 32, 3) := by decide +kernel
theorem zd74_58 : decode zxm74.2.1 58 = .ok (.iconst 1, 1) := by decide +kernel
theorem zd74_59 : decode zxm74.2.1 59 = .ok (.iadd, 1) := by decide +kernel
theorem zd74_60 : decode zxm74.2.1 60 = .ok (.putfield 32, 3) := by decide +kernel
theorem zd74_63 : decode zxm74.2.1 63 = .ok (.iload_n 1, 1) := by decide +kernel
theorem zd74_64 : decode zxm74.2.1 64 = .ok (.bipush 118, 2) := by decide +kernel
theorem zd74_66 : decode zxm74.2.1 66 = .ok (.if_icmp .ne 57, 3) := by decide +kernel
theorem zd74_69 : decode zxm74.2.1 69 = .ok (.aload_n 0, 1) := by decide +kernel
theorem zd74_70 : decode zxm74.2.1 70 = .ok (.iconst 1, 1) := by decide +kernel
theorem zd74_71 : decode zxm74.2.1 71 = .ok (.putfield 35, 3) := by decide +kernel
theorem zd74_74 : decode zxm74.2.1 74 = .ok (.aload_n 0, 1) := by decide +kernel
theorem zd74_75 : decode zxm74.2.1 75 = .ok (.aload_n 0, 1) := by decide +kernel
theorem zd74_76 : decode zxm74.2.1 76 = .ok (.getfield 42, 3) := by decide +kernel
theorem zd74_79 : decode zxm74.2.1 79 = .ok (.ifCond .ne 33, 3) := by decide +kernel
theorem zd74_82 : decode zxm74.2.1 82 = .ok (.aload_n 0, 1) := by decide +kernel
theorem zd74_83 : decode zxm74.2.1 83 = .ok (.iload_n 3, 1) := by decide +kernel
theorem zd74_84 : decode zxm74.2.1 84 = .ok (.bipush 10, 2) := by decide +kernel
theorem zd74_86 : decode zxm74.2.1 86 = .ok (.invokevirtual 65, 3) := by decide +kernel
theorem zd74_89 : decode zxm74.2.1 89 = .ok (.ifCond .ne 23, 3) := by decide +kernel
theorem zd74_92 : decode zxm74.2.1 92 = .ok (.aload_n 0, 1) := by decide +kernel
theorem zd74_93 : decode zxm74.2.1 93 = .ok (.iload_n 3, 1) := by decide +kernel
theorem zd74_94 : decode zxm74.2.1 94 = .ok (.bipush 11, 2) := by decide +kernel
theorem zd74_96 : decode zxm74.2.1 96 = .ok (.invokevirtual 65, 3) := by decide +kernel
theorem zd74_99 : decode zxm74.2.1 99 = .ok (.ifCond .ne 13, 3) := by decide +kernel
theorem zd74_102 : decode zxm74.2.1 102 = .ok (.aload_n 0, 1) := by decide +kernel
theorem zd74_103 : decode zxm74.2.1 103 = .ok (.iload_n 3, 1) := by decide +kernel
theorem zd74_104 : decode zxm74.2.1 104 = .ok (.bipush 12, 2) := by decide +kernel
theorem zd74_106 : decode zxm74.2.1 106 = .ok (.invokevirtual 65, 3) := by decide +kernel
theorem zd74_109 : decode zxm74.2.1 109 = .ok (.ifCond .eq 7, 3) := by decide +kernel
theorem zd74_112 : decode zxm74.2.1 112 = .ok (.iconst 1, 1) := by decide +kernel
theorem zd74_113 : decode zxm74.2.1 113 = .ok (.goto 4, 3) := by decide +kernel
theorem zd74_116 : decode zxm74.2.1 116 = .ok (.iconst 0, 1) := by decide +kernel
theorem zd74_117 : decode zxm74.2.1 117 = .ok (.putfield 42, 3) := by decide +kernel
theorem zd74_120 : decode zxm74.2.1 120 = .ok (.goto 50, 3) := by decide +kernel
theorem zd74_123 : decode zxm74.2.1 123 = .ok (.iload_n 1, 1) := by decide +kernel
theorem zd74_124 : decode zxm74.2.1 124 = .ok (.bipush 106, 2) := by decide +kernel
theorem zd74_126 : decode zxm74.2.1 126 = .ok (.if_icmp .ne 44, 3) := by decide +kernel
theorem zd74_129 : decode zxm74.2.1 129 = .ok (.aload_n 0, 1) := by decide +kernel
theorem zd74_130 : decode zxm74.2.1 130 = .ok (.iconst 1, 1) := by decide +kernel
theorem zd74_131 : decode zxm74.2.1 131 = .ok (.putfield 39, 3) := by decide +kernel
theorem zd74_134 : decode zxm74.2.1 134 = .ok (.aload_n 0, 1) := by decide +kernel
theorem zd74_135 : decode zxm74.2.1 135 = .ok (.aload_n 0, 1) := by decide +kernel
theorem zd74_136 : decode zxm74.2.1 136 = .ok (.getfield 45, 3) := by decide +kernel
theorem zd74_139 : decode zxm74.2.1 139 = .ok (.ifCond .ne 23, 3) := by decide +kernel
theorem zd74_142 : decode zxm74.2.1 142 = .ok (.aload_n 0, 1) := by decide +kernel
theorem zd74_143 : decode zxm74.2.1 143 = .ok (.iload_n 3, 1) := by decide +kernel
theorem zd74_144 : decode zxm74.2.1 144 = .ok (.bipush 10, 2) := by decide +kernel
theorem zd74_146 : decode zxm74.2.1 146 = .ok (.invokevirtual 65, 3) := by decide +kernel
theorem zd74_149 : decode zxm74.2.1 149 = .ok (.ifCond .ne 13, 3) := by decide +kernel
theorem zd74_152 : decode zxm74.2.1 152 = .ok (.aload_n 0, 1) := by decide +kernel
theorem zd74_153 : decode zxm74.2.1 153 = .ok (.iload_n 3, 1) := by decide +kernel
theorem zd74_154 : decode zxm74.2.1 154 = .ok (.bipush 11, 2) := by decide +kernel
theorem zd74_156 : decode zxm74.2.1 156 = .ok (.invokevirtual 65, 3) := by decide +kernel
theorem zd74_159 : decode zxm74.2.1 159 = .ok (.ifCond .eq 7, 3) := by decide +kernel
theorem zd74_162 : decode zxm74.2.1 162 = .ok (.iconst 1, 1) := by decide +kernel
theorem zd74_163 : decode zxm74.2.1 163 = .ok (.goto 4, 3) := by decide +kernel
theorem zd74_166 : decode zxm74.2.1 166 = .ok (.iconst 0, 1) := by decide +kernel
theorem zd74_167 : decode zxm74.2.1 167 = .ok (.putfield 45, 3) := by decide +kernel
theorem zd74_170 : decode zxm74.2.1 170 = .ok (.return_, 1) := by decide +kernel
theorem zt_Law_addClause {x1 : Int} {x2 : Int} {x3 : Int} {f0 : Int} {f1 : Int} {f2 : Int} {f3 : Int} {f4 : Int} {f5 : Int} {g0 : (Int → Int)} {g1 : (Int → Int)} {g2 : (Int → Int)} {g3 : (Int → Int)} {g4 : (Int → Int)} {g5 : (Int → Int)} {o : Int × Int × Int × Int × Int × (Int → Int) × (Int → Int) × (Int → Int) × (Int → Int)} (h : zf_Law_addClause x1 x2 x3 f0 f1 f2 f3 f4 f5 g0 g1 g2 g3 g4 g5 = some o) : zv_Fn z_TB z_cl z_KX zy_Law_addClause zxm74 (1, 60) [.inr 0, .inl x1, .inl x2, .inl x3] [.inl f0, .inl f1, .inl f2, .inl f3, .inl f4, .inl f5] [g0, g1, g2, g3, g4, g5] none [.inl o.1, .inl f1, .inl o.2.1, .inl o.2.2.1, .inl o.2.2.2.1, .inl o.2.2.2.2.1] [o.2.2.2.2.2.1, o.2.2.2.2.2.2.1, o.2.2.2.2.2.2.2.1, o.2.2.2.2.2.2.2.2, g4, g5] := zv_meth (K := (z_KF2, z_KC2, z_KL2, z_KT2, [], [], [], none)) (FT := z_FT) (MT := z_MT) (n := 4) zxp74 (z_ks2 _ (fun _ h => List.mem_cons_of_mem _ h) _ _ _ _ (fun j r h _ => by cases h)) (fun _ _ => zs_KX_p) zyw_Law_addClause (fun va F G h => by obtain ⟨rfl, _⟩ := h; rfl) (fun va F G h => by obtain ⟨rfl, _⟩ := h; rfl) rfl fun good va F G hB hret hvret hP => by
  obtain ⟨rfl, rfl, rfl⟩ := hP
  unfold zf_Law_addClause at h
  refine zv_ald hB zd74_0 rfl rfl rfl ?_
  refine zv_getf hB zd74_1 rfl rfl (fun _ _ => ?_)
  refine zv_con hB zd74_4 rfl ?_
  refine zv_clt hB zd74_6 rfl (fun hc1 => ?_) (fun hc1 => ?_)
  · rw [if_pos hc1] at h
    refine zv_ald hB zd74_10 rfl rfl rfl ?_
    refine zv_getr hB zd74_11 rfl ?_
    refine zv_ald hB zd74_14 rfl rfl rfl ?_
    refine zv_getf hB zd74_15 rfl rfl (fun _ _ => ?_)
    refine zv_ild hB zd74_18 rfl rfl ?_
    obtain ⟨c2, h⟩ := zi_if h
    refine zv_iast hB zd74_19 rfl rfl (zi_ix_ok c2).1 (zi_ix_ok c2).2 ?_
    refine zv_ald hB zd74_20 rfl rfl rfl ?_
    refine zv_getr hB zd74_21 rfl ?_
    refine zv_ald hB zd74_24 rfl rfl rfl ?_
    refine zv_getf hB zd74_25 rfl rfl (fun _ _ => ?_)
    refine zv_ild hB zd74_28 rfl rfl ?_
    refine zv_iast hB zd74_29 rfl rfl (zi_ix_ok c2).1 (zi_ix_ok c2).2 ?_
    refine zv_ald hB zd74_30 rfl rfl rfl ?_
    refine zv_getr hB zd74_31 rfl ?_
    refine zv_ald hB zd74_34 rfl rfl rfl ?_
    refine zv_getf hB zd74_35 rfl rfl (fun _ _ => ?_)
    refine zv_ild hB zd74_38 rfl rfl ?_
    refine zv_iast hB zd74_39 rfl rfl (zi_ix_ok c2).1 (zi_ix_ok c2).2 ?_
    refine zv_ald hB zd74_40 rfl rfl rfl ?_
    refine zv_getr hB zd74_41 rfl ?_
    refine zv_ald hB zd74_44 rfl rfl rfl ?_
    refine zv_getf hB zd74_45 rfl rfl (fun _ _ => ?_)
    refine zv_ald hB zd74_48 rfl rfl rfl ?_
    refine zv_getf hB zd74_49 rfl rfl (fun _ _ => ?_)
    refine zv_iast hB zd74_52 rfl rfl (zi_ix_ok c2).1 (zi_ix_ok c2).2 ?_
    refine zv_ald hB zd74_53 rfl rfl rfl ?_
    refine zv_dup hB zd74_54 rfl ?_
    refine zv_getf hB zd74_55 rfl rfl (fun _ _ => ?_)
    refine zv_con hB zd74_58 rfl ?_
    refine zv_addw hB zd74_59 ?_
    refine zv_putf hB zd74_60 rfl rfl (fun h => by cases h) rfl ?_
    refine zv_ild hB zd74_63 rfl rfl ?_
    refine zv_con hB zd74_64 rfl ?_
    refine zv_cne hB zd74_66 rfl (fun hc3 => ?_) (fun hc3 => ?_)
    · rw [if_neg hc3] at h
      refine zv_ild hB zd74_123 rfl rfl ?_
      refine zv_con hB zd74_124 rfl ?_
      refine zv_cne hB zd74_126 rfl (fun hc4 => ?_) (fun hc4 => ?_)
      · rw [if_neg hc4] at h
        have hw := Option.some.inj h
        subst hw
        exact hvret _ _ _ _ zd74_170 trivial ⟨rfl, rfl, rfl⟩
      · rw [if_pos hc4] at h
        refine zv_ald hB zd74_129 rfl rfl rfl ?_
        refine zv_con hB zd74_130 rfl ?_
        refine zv_putf hB zd74_131 rfl rfl (fun _ => by decide) rfl ?_
        refine zv_ald hB zd74_134 rfl rfl rfl ?_
        refine zv_ald hB zd74_135 rfl rfl rfl ?_
        refine zv_getf hB zd74_136 rfl rfl (fun _ _ => ?_)
        refine zv_zne hB zd74_139 rfl (fun hc5 => ?_) (fun hc5 => ?_)
        · rw [if_neg hc5] at h
          refine zv_con hB zd74_162 rfl ?_
          refine zv_goto hB zd74_163 rfl ?_
          refine zv_putf hB zd74_167 rfl rfl (fun _ => by decide) rfl ?_
          have hw := Option.some.inj h
          subst hw
          exact hvret _ _ _ _ zd74_170 trivial ⟨rfl, rfl, rfl⟩
        · rw [if_pos hc5] at h
          refine zv_ald hB zd74_142 rfl rfl rfl ?_
          refine zv_ild hB zd74_143 rfl rfl ?_
          refine zv_con hB zd74_144 rfl ?_
          obtain ⟨r6, hr6, h⟩ := zi_bind h
          refine zv_cv hB (zv_emq (va2 := [.inr 0, .inl x3, .inl 10]) (F := [.inl (zi_w (f0 + 1)), .inl f1, .inl 1, .inl f3, .inl f4, .inl f5]) (F' := [.inl (zi_w (f0 + 1)), .inl f1, .inl 1, .inl f3, .inl f4, .inl f5]) (G := [(zv_up g0 f0 x1), (zv_up g1 f0 x2), (zv_up g2 f0 x3), (zv_up g3 f0 f1), g4, g5]) (G' := [(zv_up g0 f0 x1), (zv_up g1 f0 x2), (zv_up g2 f0 x3), (zv_up g3 f0 f1), g4, g5]) (ρ := [0, 5, 6]) (φ := [1]) (ψ := [4, 5]) [none, some 0, none, none, none, none] [none, none, none, none, some 0, some 1] zyw_Law_hasLetter zyw_Law_addClause zye_Law_addClause (by decide +kernel) (zt_Law_hasLetter hr6) ⟨⟨_, rfl, fun _ => rfl⟩, trivial⟩ ⟨rfl, rfl, trivial⟩ rfl rfl rfl rfl rfl rfl rfl) zd74_146 zxt75 rfl (by decide) (by decide) rfl ?_
          refine zv_zne hB zd74_149 rfl (fun hc7 => ?_) (fun hc7 => ?_)
          · rw [if_neg hc7] at h
            refine zv_con hB zd74_162 rfl ?_
            refine zv_goto hB zd74_163 rfl ?_
            refine zv_putf hB zd74_167 rfl rfl (fun _ => by decide) rfl ?_
            have hw := Option.some.inj h
            subst hw
            exact hvret _ _ _ _ zd74_170 trivial ⟨rfl, rfl, rfl⟩
          · rw [if_pos hc7] at h
            refine zv_ald hB zd74_152 rfl rfl rfl ?_
            refine zv_ild hB zd74_153 rfl rfl ?_
            refine zv_con hB zd74_154 rfl ?_
            obtain ⟨r8, hr8, h⟩ := zi_bind h
            refine zv_cv hB (zv_emq (va2 := [.inr 0, .inl x3, .inl 11]) (F := [.inl (zi_w (f0 + 1)), .inl f1, .inl 1, .inl f3, .inl f4, .inl f5]) (F' := [.inl (zi_w (f0 + 1)), .inl f1, .inl 1, .inl f3, .inl f4, .inl f5]) (G := [(zv_up g0 f0 x1), (zv_up g1 f0 x2), (zv_up g2 f0 x3), (zv_up g3 f0 f1), g4, g5]) (G' := [(zv_up g0 f0 x1), (zv_up g1 f0 x2), (zv_up g2 f0 x3), (zv_up g3 f0 f1), g4, g5]) (ρ := [0, 5, 6]) (φ := [1]) (ψ := [4, 5]) [none, some 0, none, none, none, none] [none, none, none, none, some 0, some 1] zyw_Law_hasLetter zyw_Law_addClause zye_Law_addClause (by decide +kernel) (zt_Law_hasLetter hr8) ⟨⟨_, rfl, fun _ => rfl⟩, trivial⟩ ⟨rfl, rfl, trivial⟩ rfl rfl rfl rfl rfl rfl rfl) zd74_156 zxt75 rfl (by decide) (by decide) rfl ?_
            refine zv_zeq hB zd74_159 rfl (fun hc9 => ?_) (fun hc9 => ?_)
            · rw [if_pos hc9] at h
              refine zv_con hB zd74_166 rfl ?_
              refine zv_putf hB zd74_167 rfl rfl (fun _ => by decide) rfl ?_
              have hw := Option.some.inj h
              subst hw
              exact hvret _ _ _ _ zd74_170 trivial ⟨rfl, rfl, rfl⟩
            · rw [if_neg hc9] at h
              refine zv_con hB zd74_162 rfl ?_
              refine zv_goto hB zd74_163 rfl ?_
              refine zv_putf hB zd74_167 rfl rfl (fun _ => by decide) rfl ?_
              have hw := Option.some.inj h
              subst hw
              exact hvret _ _ _ _ zd74_170 trivial ⟨rfl, rfl, rfl⟩
    · rw [if_pos hc3] at h
      refine zv_ald hB zd74_69 rfl rfl rfl ?_
      refine zv_con hB zd74_70 rfl ?_
      refine zv_putf hB zd74_71 rfl rfl (fun _ => by decide) rfl ?_
      refine zv_ald hB zd74_74 rfl rfl rfl ?_
      refine zv_ald hB zd74_75 rfl rfl rfl ?_
      refine zv_getf hB zd74_76 rfl rfl (fun _ _ => ?_)
      refine zv_zne hB zd74_79 rfl (fun hc10 => ?_) (fun hc10 => ?_)
      · rw [if_neg hc10] at h
        refine zv_con hB zd74_112 rfl ?_
        refine zv_goto hB zd74_113 rfl ?_
        refine zv_putf hB zd74_117 rfl rfl (fun _ => by decide) rfl ?_
        refine zv_goto hB zd74_120 rfl ?_
        have hw := Option.some.inj h
        subst hw
        exact hvret _ _ _ _ zd74_170 trivial ⟨rfl, rfl, rfl⟩
      · rw [if_pos hc10] at h
        refine zv_ald hB zd74_82 rfl rfl rfl ?_
        refine zv_ild hB zd74_83 rfl rfl ?_
        refine zv_con hB zd74_84 rfl ?_
        obtain ⟨r11, hr11, h⟩ := zi_bind h
        refine zv_cv hB (zv_emq (va2 := [.inr 0, .inl x3, .inl 10]) (F := [.inl (zi_w (f0 + 1)), .inl f1, .inl f2, .inl f3, .inl 1, .inl f5]) (F' := [.inl (zi_w (f0 + 1)), .inl f1, .inl f2, .inl f3, .inl 1, .inl f5]) (G := [(zv_up g0 f0 x1), (zv_up g1 f0 x2), (zv_up g2 f0 x3), (zv_up g3 f0 f1), g4, g5]) (G' := [(zv_up g0 f0 x1), (zv_up g1 f0 x2), (zv_up g2 f0 x3), (zv_up g3 f0 f1), g4, g5]) (ρ := [0, 5, 6]) (φ := [1]) (ψ := [4, 5]) [none, some 0, none, none, none, none] [none, none, none, none, some 0, some 1] zyw_Law_hasLetter zyw_Law_addClause zye_Law_addClause (by decide +kernel) (zt_Law_hasLetter hr11) ⟨⟨_, rfl, fun _ => rfl⟩, trivial⟩ ⟨rfl, rfl, trivial⟩ rfl rfl rfl rfl rfl rfl rfl) zd74_86 zxt75 rfl (by decide) (by decide) rfl ?_
        refine zv_zne hB zd74_89 rfl (fun hc12 => ?_) (fun hc12 => ?_)
        · rw [if_neg hc12] at h
          refine zv_con hB zd74_112 rfl ?_
          refine zv_goto hB zd74_113 rfl ?_
          refine zv_putf hB zd74_117 rfl rfl (fun _ => by decide) rfl ?_
          refine zv_goto hB zd74_120 rfl ?_
          have hw := Option.some.inj h
          subst hw
          exact hvret _ _ _ _ zd74_170 trivial ⟨rfl, rfl, rfl⟩
        · rw [if_pos hc12] at h
          refine zv_ald hB zd74_92 rfl rfl rfl ?_
          refine zv_ild hB zd74_93 rfl rfl ?_
          refine zv_con hB zd74_94 rfl ?_
          obtain ⟨r13, hr13, h⟩ := zi_bind h
          refine zv_cv hB (zv_emq (va2 := [.inr 0, .inl x3, .inl 11]) (F := [.inl (zi_w (f0 + 1)), .inl f1, .inl f2, .inl f3, .inl 1, .inl f5]) (F' := [.inl (zi_w (f0 + 1)), .inl f1, .inl f2, .inl f3, .inl 1, .inl f5]) (G := [(zv_up g0 f0 x1), (zv_up g1 f0 x2), (zv_up g2 f0 x3), (zv_up g3 f0 f1), g4, g5]) (G' := [(zv_up g0 f0 x1), (zv_up g1 f0 x2), (zv_up g2 f0 x3), (zv_up g3 f0 f1), g4, g5]) (ρ := [0, 5, 6]) (φ := [1]) (ψ := [4, 5]) [none, some 0, none, none, none, none] [none, none, none, none, some 0, some 1] zyw_Law_hasLetter zyw_Law_addClause zye_Law_addClause (by decide +kernel) (zt_Law_hasLetter hr13) ⟨⟨_, rfl, fun _ => rfl⟩, trivial⟩ ⟨rfl, rfl, trivial⟩ rfl rfl rfl rfl rfl rfl rfl) zd74_96 zxt75 rfl (by decide) (by decide) rfl ?_
          refine zv_zne hB zd74_99 rfl (fun hc14 => ?_) (fun hc14 => ?_)
          · rw [if_neg hc14] at h
            refine zv_con hB zd74_112 rfl ?_
            refine zv_goto hB zd74_113 rfl ?_
            refine zv_putf hB zd74_117 rfl rfl (fun _ => by decide) rfl ?_
            refine zv_goto hB zd74_120 rfl ?_
            have hw := Option.some.inj h
            subst hw
            exact hvret _ _ _ _ zd74_170 trivial ⟨rfl, rfl, rfl⟩
          · rw [if_pos hc14] at h
            refine zv_ald hB zd74_102 rfl rfl rfl ?_
            refine zv_ild hB zd74_103 rfl rfl ?_
            refine zv_con hB zd74_104 rfl ?_
            obtain ⟨r15, hr15, h⟩ := zi_bind h
            refine zv_cv hB (zv_emq (va2 := [.inr 0, .inl x3, .inl 12]) (F := [.inl (zi_w (f0 + 1)), .inl f1, .inl f2, .inl f3, .inl 1, .inl f5]) (F' := [.inl (zi_w (f0 + 1)), .inl f1, .inl f2, .inl f3, .inl 1, .inl f5]) (G := [(zv_up g0 f0 x1), (zv_up g1 f0 x2), (zv_up g2 f0 x3), (zv_up g3 f0 f1), g4, g5]) (G' := [(zv_up g0 f0 x1), (zv_up g1 f0 x2), (zv_up g2 f0 x3), (zv_up g3 f0 f1), g4, g5]) (ρ := [0, 5, 6]) (φ := [1]) (ψ := [4, 5]) [none, some 0, none, none, none, none] [none, none, none, none, some 0, some 1] zyw_Law_hasLetter zyw_Law_addClause zye_Law_addClause (by decide +kernel) (zt_Law_hasLetter hr15) ⟨⟨_, rfl, fun _ => rfl⟩, trivial⟩ ⟨rfl, rfl, trivial⟩ rfl rfl rfl rfl rfl rfl rfl) zd74_106 zxt75 rfl (by decide) (by decide) rfl ?_
            refine zv_zeq hB zd74_109 rfl (fun hc16 => ?_) (fun hc16 => ?_)
            · rw [if_pos hc16] at h
              refine zv_con hB zd74_116 rfl ?_
              refine zv_putf hB zd74_117 rfl rfl (fun _ => by decide) rfl ?_
              refine zv_goto hB zd74_120 rfl ?_
              have hw := Option.some.inj h
              subst hw
              exact hvret _ _ _ _ zd74_170 trivial ⟨rfl, rfl, rfl⟩
            · rw [if_neg hc16] at h
              refine zv_con hB zd74_112 rfl ?_
              refine zv_goto hB zd74_113 rfl ?_
              refine zv_putf hB zd74_117 rfl rfl (fun _ => by decide) rfl ?_
              refine zv_goto hB zd74_120 rfl ?_
              have hw := Option.some.inj h
              subst hw
              exact hvret _ _ _ _ zd74_170 trivial ⟨rfl, rfl, rfl⟩
  · rw [if_neg (Int.not_lt.mpr hc1)] at h
    have hw := Option.some.inj h
    subst hw
    exact hvret _ _ _ _ zd74_9 trivial ⟨rfl, rfl, rfl⟩
end
section
/-! Methods as functions, and that they do what these do. -/
/-! LawReader_readClause ()V -/
-- names: 0 LawReader('arg', 0), 1 (0, 220)(0, 5, 0), 2 Law(0, 5, 4), 3 (0, 200)(2, 4, 0), 4 (0, 200)(2, 4, 1), 5 (0, 14)(2, 4, 3), 6 (0, 14)(2, 4, 4), 7 (0, 14)(2, 4, 5), 8 (0, 14)(2, 4, 6)
-- fields: f0 = 0.fault_, f1 = 0.at_, f2 = 0.length_, f3 = 0.law_, f4 = 2.clauses_, f5 = 2.steps_, f6 = 2.tellsLines_, f7 = 2.linesByPlace_, f8 = 2.tellsSeen_, f9 = 2.seenByPlace_; arrays: g0 = 1, g1 = 3, g2 = 4, g3 = 5, g4 = 6, g5 = 7, g6 = 8; out: [('f', 0), ('f', 1), ('f', 4), ('f', 5), ('f', 6), ('f', 7), ('f', 8), ('f', 9), ('g', 1), ('g', 2), ('g', 3), ('g', 4), ('g', 5), ('g', 6)]
abbrev zy_LawReader_readClause : zNL := (9, [(0, 5), (2, 4)], [(0, 5, 3, 0), (0, 5, 2, 1), (0, 5, 1, 2), (0, 5, 4, 3), (2, 4, 7, 4), (2, 4, 2, 5), (2, 4, 9, 6), (2, 4, 11, 7), (2, 4, 8, 8), (2, 4, 10, 9)], [(0, 5, 0, 1), (2, 4, 0, 3), (2, 4, 1, 4), (2, 4, 3, 5), (2, 4, 4, 6), (2, 4, 5, 7), (2, 4, 6, 8)], [(1, 0, 220, 0), (3, 0, 200, 1), (4, 0, 200, 2), (5, 0, 14, 3), (6, 0, 14, 4), (7, 0, 14, 5), (8, 0, 14, 6)])
theorem zyw_LawReader_readClause : zv_wf zy_LawReader_readClause = true := by decide +kernel
theorem zye_LawReader_readClause : zv_ek2 zy_LawReader_readClause = true := by decide +kernel
def zf_LawReader_readClause (f0 : Int) (f1 : Int) (f2 : Int) (f4 : Int) (f5 : Int) (f6 : Int) (f7 : Int) (f8 : Int) (f9 : Int) (g0 : (Int → Int)) (g1 : (Int → Int)) (g2 : (Int → Int)) (g3 : (Int → Int)) (g4 : (Int → Int)) (g5 : (Int → Int)) (g6 : (Int → Int)) : Option (Int × Int × Int × Int × Int × Int × Int × Int × (Int → Int) × (Int → Int) × (Int → Int) × (Int → Int) × (Int → Int) × (Int → Int)) := if f0 = 0 then ((zf_LawReader_peek f1 f2 g0).bind fun r2 => (if r2 = 119 then (if f4 = 14 then ((zf_LawReader_fail 4 f0 f1).bind fun r12 => (some (r12, f1, f4, f5, f6, f7, f8, f9, g1, g2, g3, g4, g5, g6))) else ((zf_LawReader_readSum 0 f0 (zi_w (f1 + 1)) f2 f5 g0 g1 g2).bind fun r7 => ((zf_LawReader_skip 40 r7.1 r7.2.1 f2 g0).bind fun r8 => ((zf_LawReader_readCondition 1 r8.1 r8.2 f2 r7.2.2.1 g0 r7.2.2.2.1 r7.2.2.2.2).bind fun r9 => ((zf_LawReader_skip 41 r9.1 r9.2.1 f2 g0).bind fun r10 => ((zf_Law_addClause r2 f5 r7.2.2.1 f4 r9.2.2.1 f6 f7 f8 f9 g3 g4 g5 g6 r9.2.2.2.1 r9.2.2.2.2).bind fun r11 => (some (r10.1, r10.2, r11.1, r9.2.2.1, r11.2.1, r11.2.2.1, r11.2.2.2.1, r11.2.2.2.2.1, r9.2.2.2.1, r9.2.2.2.2, r11.2.2.2.2.2.1, r11.2.2.2.2.2.2.1, r11.2.2.2.2.2.2.2.1, r11.2.2.2.2.2.2.2.2)))))))) else (if r2 = 103 then (if f4 = 14 then ((zf_LawReader_fail 4 f0 f1).bind fun r22 => (some (r22, f1, f4, f5, f6, f7, f8, f9, g1, g2, g3, g4, g5, g6))) else ((zf_LawReader_readSum 0 f0 (zi_w (f1 + 1)) f2 f5 g0 g1 g2).bind fun r17 => ((zf_LawReader_skip 40 r17.1 r17.2.1 f2 g0).bind fun r18 => ((zf_LawReader_readCondition 1 r18.1 r18.2 f2 r17.2.2.1 g0 r17.2.2.2.1 r17.2.2.2.2).bind fun r19 => ((zf_LawReader_skip 41 r19.1 r19.2.1 f2 g0).bind fun r20 => ((zf_Law_addClause r2 f5 r17.2.2.1 f4 r19.2.2.1 f6 f7 f8 f9 g3 g4 g5 g6 r19.2.2.2.1 r19.2.2.2.2).bind fun r21 => (some (r20.1, r20.2, r21.1, r19.2.2.1, r21.2.1, r21.2.2.1, r21.2.2.2.1, r21.2.2.2.2.1, r19.2.2.2.1, r19.2.2.2.2, r21.2.2.2.2.2.1, r21.2.2.2.2.2.2.1, r21.2.2.2.2.2.2.2.1, r21.2.2.2.2.2.2.2.2)))))))) else (if r2 = 113 then (if f4 = 14 then ((zf_LawReader_fail 4 f0 f1).bind fun r50 => (some (r50, f1, f4, f5, f6, f7, f8, f9, g1, g2, g3, g4, g5, g6))) else ((zf_LawReader_readSum 0 f0 (zi_w (f1 + 1)) f2 f5 g0 g1 g2).bind fun r45 => ((zf_LawReader_skip 40 r45.1 r45.2.1 f2 g0).bind fun r46 => ((zf_LawReader_readCondition 1 r46.1 r46.2 f2 r45.2.2.1 g0 r45.2.2.2.1 r45.2.2.2.2).bind fun r47 => ((zf_LawReader_skip 41 r47.1 r47.2.1 f2 g0).bind fun r48 => ((zf_Law_addClause r2 f5 r45.2.2.1 f4 r47.2.2.1 f6 f7 f8 f9 g3 g4 g5 g6 r47.2.2.2.1 r47.2.2.2.2).bind fun r49 => (some (r48.1, r48.2, r49.1, r47.2.2.1, r49.2.1, r49.2.2.1, r49.2.2.2.1, r49.2.2.2.2.1, r47.2.2.2.1, r47.2.2.2.2, r49.2.2.2.2.2.1, r49.2.2.2.2.2.2.1, r49.2.2.2.2.2.2.2.1, r49.2.2.2.2.2.2.2.2)))))))) else (if r2 = 118 then (if f4 = 14 then ((zf_LawReader_fail 4 f0 f1).bind fun r32 => (some (r32, f1, f4, f5, f6, f7, f8, f9, g1, g2, g3, g4, g5, g6))) else ((zf_LawReader_skip 40 f0 (zi_w (f1 + 1)) f2 g0).bind fun r28 => ((zf_LawReader_readCondition 1 r28.1 r28.2 f2 f5 g0 g1 g2).bind fun r29 => ((zf_LawReader_skip 41 r29.1 r29.2.1 f2 g0).bind fun r30 => ((zf_Law_addClause r2 f5 f5 f4 r29.2.2.1 f6 f7 f8 f9 g3 g4 g5 g6 r29.2.2.2.1 r29.2.2.2.2).bind fun r31 => (some (r30.1, r30.2, r31.1, r29.2.2.1, r31.2.1, r31.2.2.1, r31.2.2.2.1, r31.2.2.2.2.1, r29.2.2.2.1, r29.2.2.2.2, r31.2.2.2.2.2.1, r31.2.2.2.2.2.2.1, r31.2.2.2.2.2.2.2.1, r31.2.2.2.2.2.2.2.2))))))) else (if r2 = 106 then (if f4 = 14 then ((zf_LawReader_fail 4 f0 f1).bind fun r40 => (some (r40, f1, f4, f5, f6, f7, f8, f9, g1, g2, g3, g4, g5, g6))) else ((zf_LawReader_skip 40 f0 (zi_w (f1 + 1)) f2 g0).bind fun r36 => ((zf_LawReader_readCondition 1 r36.1 r36.2 f2 f5 g0 g1 g2).bind fun r37 => ((zf_LawReader_skip 41 r37.1 r37.2.1 f2 g0).bind fun r38 => ((zf_Law_addClause r2 f5 f5 f4 r37.2.2.1 f6 f7 f8 f9 g3 g4 g5 g6 r37.2.2.2.1 r37.2.2.2.2).bind fun r39 => (some (r38.1, r38.2, r39.1, r37.2.2.1, r39.2.1, r39.2.2.1, r39.2.2.2.1, r39.2.2.2.2.1, r37.2.2.2.1, r37.2.2.2.2, r39.2.2.2.2.2.1, r39.2.2.2.2.2.2.1, r39.2.2.2.2.2.2.2.1, r39.2.2.2.2.2.2.2.2))))))) else ((zf_LawReader_fail 1 f0 f1).bind fun r41 => (some (r41, f1, f4, f5, f6, f7, f8, f9, g1, g2, g3, g4, g5, g6))))))))) else (some (f0, f1, f4, f5, f6, f7, f8, f9, g1, g2, g3, g4, g5, g6))
theorem zd39_0 : decode zxm39.2.1 0 = .ok (.aload_n 0, 1) := by decide +kernel
theorem zd39_1 : decode zxm39.2.1 1 = .ok (.getfield 18, 3) := by decide +kernel
theorem zd39_4 : decode zxm39.2.1 4 = .ok (.ifCond .eq 4, 3) := by decide +kernel
theorem zd39_7 : decode zxm39.2.1 7 = .ok (.return_, 1) := by decide +kernel
theorem zd39_8 : decode zxm39.2.1 8 = .ok (.aload_n 0, 1) := by decide +kernel
theorem zd39_9 : decode zxm39.2.1 9 = .ok (.invokevirtual 53, 3) := by decide +kernel
theorem zd39_12 : decode zxm39.2.1 12 = .ok (.istore_n 1, 1) := by decide +kernel
theorem zd39_13 : decode zxm39.2.1 13 = .ok (.iload_n 1, 1) := by decide +kernel
theorem zd39_14 : decode zxm39.2.1 14 = .ok (.bipush 119, 2) := by decide +kernel
theorem zd39_16 : decode zxm39.2.1 16 = .ok (.if_icmp .eq 15, 3) := by decide +kernel
theorem zd39_19 : decode zxm39.2.1 19 = .ok (.iload_n 1, 1) := by decide +kernel
theorem zd39_20 : decode zxm39.2.1 20 = .ok (.bipush 103, 2) := by decide +kernel
theorem zd39_22 : decode zxm39.2.1 22 = .ok (.if_icmp .eq 9, 3) := by decide +kernel
theorem zd39_25 : decode zxm39.2.1 25 = .ok (.iload_n 1, 1) := by decide +kernel
theorem zd39_26 : decode zxm39.2.1 26 = .ok (.bipush 113, 2) := by decide +kernel
theorem zd39_28 : decode zxm39.2.1 28 = .ok (.if_icmp .ne 7, 3) := by decide +kernel
theorem zd39_31 : decode zxm39.2.1 31 = .ok (.iconst 1, 1) := by decide +kernel
theorem zd39_32 : decode zxm39.2.1 32 = .ok (.goto 4, 3) := by decide +kernel
theorem zd39_35 : decode zxm39.2.1 35 = .ok (.iconst 0, 1) := by decide +kernel
theorem zd39_36 : decode zxm39.2.1 36 = .ok (.istore_n 2, 1) := by decide +kernel
theorem zd39_37 : decode zxm39.2.1 37 = .ok (.iload_n 2, 1) := by decide +kernel
theorem zd39_38 : decode zxm39.2.1 38 = .ok (.ifCond .ne 21, 3) := by decide +kernel
theorem zd39_41 : decode zxm39.2.1 41 = .ok (.iload_n 1, 1) := by decide +kernel
theorem zd39_42 : decode zxm39.2.1 42 = .ok (.bipush 118, 2) := by decide +kernel
theorem zd39_44 : decode zxm39.2.1 44 = .ok (.if_icmp .eq 15, 3) := by decide +kernel
theorem zd39_47 : decode zxm39.2.1 47 = .ok (.iload_n 1, 1) := by decide +kernel
theorem zd39_48 : decode zxm39.2.1 48 = .ok (.bipush 106, 2) := by decide +kernel
theorem zd39_50 : decode zxm39.2.1 50 = .ok (.if_icmp .eq 9, 3) := by decide +kernel
theorem zd39_53 : decode zxm39.2.1 53 = .ok (.aload_n 0, 1) := by decide +kernel
theorem zd39_54 : decode zxm39.2.1 54 = .ok (.iconst 1, 1) := by decide +kernel
theorem zd39_55 : decode zxm39.2.1 55 = .ok (.invokevirtual 57, 3) := by decide +kernel
theorem zd39_58 : decode zxm39.2.1 58 = .ok (.return_, 1) := by decide +kernel
theorem zd39_59 : decode zxm39.2.1 59 = .ok (.aload_n 0, 1) := by decide +kernel
theorem zd39_60 : decode zxm39.2.1 60 = .ok (.getfield 25, 3) := by decide +kernel
theorem zd39_63 : decode zxm39.2.1 63 = .ok (.getfield 47, 3) := by decide +kernel
theorem zd39_66 : decode zxm39.2.1 66 = .ok (.bipush 14, 2) := by decide +kernel
theorem zd39_68 : decode zxm39.2.1 68 = .ok (.if_icmp .ne 9, 3) := by decide +kernel
theorem zd39_71 : decode zxm39.2.1 71 = .ok (.aload_n 0, 1) := by decide +kernel
theorem zd39_72 : decode zxm39.2.1 72 = .ok (.iconst 4, 1) := by decide +kernel
theorem zd39_73 : decode zxm39.2.1 73 = .ok (.invokevirtual 57, 3) := by decide +kernel
theorem zd39_76 : decode zxm39.2.1 76 = .ok (.return_, 1) := by decide +kernel
theorem zd39_77 : decode zxm39.2.1 77 = .ok (.aload_n 0, 1) := by decide +kernel
theorem zd39_78 : decode zxm39.2.1 78 = .ok (.dup, 1) := by decide +kernel
theorem zd39_79 : decode zxm39.2.1 79 = .ok (.getfield 15, 3) := by decide +kernel
theorem zd39_82 : decode zxm39.2.1 82 = .ok (.iconst 1, 1) := by decide +kernel
theorem zd39_83 : decode zxm39.2.1 83 = .ok (.iadd, 1) := by decide +kernel
theorem zd39_84 : decode zxm39.2.1 84 = .ok (.putfield 15, 3) := by decide +kernel
theorem zd39_87 : decode zxm39.2.1 87 = .ok (.aload_n 0, 1) := by decide +kernel
theorem zd39_88 : decode zxm39.2.1 88 = .ok (.getfield 25, 3) := by decide +kernel
theorem zd39_91 : decode zxm39.2.1 91 = .ok (.getfield 60, 3) := by decide +kernel
theorem zd39_94 : decode zxm39.2.1 94 = .ok (.istore_n 3, 1) := by decide +kernel
theorem zd39_95 : decode zxm39.2.1 95 = .ok (.iload_n 2, 1) := by decide +kernel
theorem zd39_96 : decode zxm39.2.1 96 = .ok (.ifCond .eq 8, 3) := by decide +kernel
theorem zd39_99 : decode zxm39.2.1 99 = .ok (.aload_n 0, 1) := by decide +kernel
theorem zd39_100 : decode zxm39.2.1 100 = .ok (.iconst 0, 1) := by decide +kernel
theorem zd39_101 : decode zxm39.2.1 101 = .ok (.invokevirtual 63, 3) := by decide +kernel
theorem zd39_104 : decode zxm39.2.1 104 = .ok (.aload_n 0, 1) := by decide +kernel
theorem zd39_105 : decode zxm39.2.1 105 = .ok (.getfield 25, 3) := by decide +kernel
theorem zd39_108 : decode zxm39.2.1 108 = .ok (.getfield 60, 3) := by decide +kernel
theorem zd39_111 : decode zxm39.2.1 111 = .ok (.istore 4, 2) := by decide +kernel
theorem zd39_113 : decode zxm39.2.1 113 = .ok (.aload_n 0, 1) := by decide +kernel
theorem zd39_114 : decode zxm39.2.1 114 = .ok (.bipush 40, 2) := by decide +kernel
theorem zd39_116 : decode zxm39.2.1 116 = .ok (.invokevirtual 43, 3) := by decide +kernel
theorem zd39_119 : decode zxm39.2.1 119 = .ok (.aload_n 0, 1) := by decide +kernel
theorem zd39_120 : decode zxm39.2.1 120 = .ok (.iconst 1, 1) := by decide +kernel
theorem zd39_121 : decode zxm39.2.1 121 = .ok (.invokevirtual 66, 3) := by decide +kernel
theorem zd39_124 : decode zxm39.2.1 124 = .ok (.aload_n 0, 1) := by decide +kernel
theorem zd39_125 : decode zxm39.2.1 125 = .ok (.bipush 41, 2) := by decide +kernel
theorem zd39_127 : decode zxm39.2.1 127 = .ok (.invokevirtual 43, 3) := by decide +kernel
theorem zd39_130 : decode zxm39.2.1 130 = .ok (.aload_n 0, 1) := by decide +kernel
theorem zd39_131 : decode zxm39.2.1 131 = .ok (.getfield 25, 3) := by decide +kernel
theorem zd39_134 : decode zxm39.2.1 134 = .ok (.iload_n 1, 1) := by decide +kernel
theorem zd39_135 : decode zxm39.2.1 135 = .ok (.iload_n 3, 1) := by decide +kernel
theorem zd39_136 : decode zxm39.2.1 136 = .ok (.iload 4, 2) := by decide +kernel
theorem zd39_138 : decode zxm39.2.1 138 = .ok (.invokevirtual 69, 3) := by decide +kernel
theorem zd39_141 : decode zxm39.2.1 141 = .ok (.return_, 1) := by decide +kernel
theorem zt_LawReader_readClause {f0 : Int} {f1 : Int} {f2 : Int} {f4 : Int} {f5 : Int} {f6 : Int} {f7 : Int} {f8 : Int} {f9 : Int} {g0 : (Int → Int)} {g1 : (Int → Int)} {g2 : (Int → Int)} {g3 : (Int → Int)} {g4 : (Int → Int)} {g5 : (Int → Int)} {g6 : (Int → Int)} {o : Int × Int × Int × Int × Int × Int × Int × Int × (Int → Int) × (Int → Int) × (Int → Int) × (Int → Int) × (Int → Int) × (Int → Int)} (h : zf_LawReader_readClause f0 f1 f2 f4 f5 f6 f7 f8 f9 g0 g1 g2 g3 g4 g5 g6 = some o) : zv_Fn z_TB z_cl z_KX zy_LawReader_readClause zxm39 (79, 4740) [.inr 0] [.inl f0, .inl f1, .inl f2, .inr 2, .inl f4, .inl f5, .inl f6, .inl f7, .inl f8, .inl f9] [g0, g1, g2, g3, g4, g5, g6] none [.inl o.1, .inl o.2.1, .inl f2, .inr 2, .inl o.2.2.1, .inl o.2.2.2.1, .inl o.2.2.2.2.1, .inl o.2.2.2.2.2.1, .inl o.2.2.2.2.2.2.1, .inl o.2.2.2.2.2.2.2.1] [g0, o.2.2.2.2.2.2.2.2.1, o.2.2.2.2.2.2.2.2.2.1, o.2.2.2.2.2.2.2.2.2.2.1, o.2.2.2.2.2.2.2.2.2.2.2.1, o.2.2.2.2.2.2.2.2.2.2.2.2.1, o.2.2.2.2.2.2.2.2.2.2.2.2.2] := zv_meth (K := (z_KF3, z_KC3, z_KL3, z_KT3, [], [], [], none)) (FT := z_FT) (MT := z_MT) (n := 1) zxp39 (z_ks3 _ (fun _ h => List.mem_cons_of_mem _ h) _ _ _ _ (fun j r h _ => by cases h)) (fun _ _ => zs_KX_p) zyw_LawReader_readClause (fun va F G h => by obtain ⟨rfl, _⟩ := h; rfl) (fun va F G h => by obtain ⟨rfl, _⟩ := h; rfl) rfl fun good va F G hB hret hvret hP => by
  obtain ⟨rfl, rfl, rfl⟩ := hP
  unfold zf_LawReader_readClause at h
  refine zv_ald hB zd39_0 rfl rfl rfl ?_
  refine zv_getf hB zd39_1 rfl rfl (fun _ _ => ?_)
  refine zv_zeq hB zd39_4 rfl (fun hc1 => ?_) (fun hc1 => ?_)
  · rw [if_pos hc1] at h
    refine zv_ald hB zd39_8 rfl rfl rfl ?_
    obtain ⟨r2, hr2, h⟩ := zi_bind h
    refine zv_cv hB (zv_emq (va2 := [.inr 0]) (F := [.inl f0, .inl f1, .inl f2, .inr 2, .inl f4, .inl f5, .inl f6, .inl f7, .inl f8, .inl f9]) (F' := [.inl f0, .inl f1, .inl f2, .inr 2, .inl f4, .inl f5, .inl f6, .inl f7, .inl f8, .inl f9]) (G := [g0, g1, g2, g3, g4, g5, g6]) (G' := [g0, g1, g2, g3, g4, g5, g6]) (ρ := [0, 1]) (φ := [1, 2]) (ψ := [0]) [none, some 0, some 1, none, none, none, none, none, none, none] [some 0, none, none, none, none, none, none] zyw_LawReader_peek zyw_LawReader_readClause zye_LawReader_readClause (by decide +kernel) (zt_LawReader_peek hr2) ⟨⟨_, rfl, fun _ => rfl⟩, ⟨_, rfl, fun _ => rfl⟩, trivial⟩ ⟨rfl, trivial⟩ rfl rfl rfl rfl rfl rfl rfl) zd39_9 zxt40 rfl (by decide) (by decide) rfl ?_
    refine zv_ist hB zd39_12 rfl rfl rfl ?_
    refine zv_ild hB zd39_13 rfl rfl ?_
    refine zv_con hB zd39_14 rfl ?_
    refine zv_ceq hB zd39_16 rfl (fun hc3 => ?_) (fun hc3 => ?_)
    · rw [if_pos hc3] at h
      refine zv_con hB zd39_31 rfl ?_
      refine zv_goto hB zd39_32 rfl ?_
      refine zv_ist hB zd39_36 rfl rfl rfl ?_
      refine zv_ild hB zd39_37 rfl rfl ?_
      refine zv_zne hB zd39_38 rfl (fun _ => ?_) (fun hc => absurd hc (by decide))
      refine zv_ald hB zd39_59 rfl rfl rfl ?_
      refine zv_getq hB zd39_60 rfl rfl rfl ?_
      refine zv_getf hB zd39_63 rfl rfl (fun _ _ => ?_)
      refine zv_con hB zd39_66 rfl ?_
      refine zv_cne hB zd39_68 rfl (fun hc5 => ?_) (fun hc5 => ?_)
      · rw [if_neg hc5] at h
        refine zv_ald hB zd39_77 rfl rfl rfl ?_
        refine zv_dup hB zd39_78 rfl ?_
        refine zv_getf hB zd39_79 rfl rfl (fun _ _ => ?_)
        refine zv_con hB zd39_82 rfl ?_
        refine zv_addw hB zd39_83 ?_
        refine zv_putf hB zd39_84 rfl rfl (fun h => by cases h) rfl ?_
        refine zv_ald hB zd39_87 rfl rfl rfl ?_
        refine zv_getq hB zd39_88 rfl rfl rfl ?_
        refine zv_getf hB zd39_91 rfl rfl (fun _ _ => ?_)
        refine zv_ist hB zd39_94 rfl rfl rfl ?_
        refine zv_ild hB zd39_95 rfl rfl ?_
        refine zv_zeq hB zd39_96 rfl (fun hc => absurd hc (by decide)) (fun _ => ?_)
        refine zv_ald hB zd39_99 rfl rfl rfl ?_
        refine zv_con hB zd39_100 rfl ?_
        obtain ⟨r7, hr7, h⟩ := zi_bind h
        refine zv_cv hB (zv_emq (va2 := [.inr 0, .inl 0]) (F := [.inl f0, .inl (zi_w (f1 + 1)), .inl f2, .inr 2, .inl f4, .inl f5, .inl f6, .inl f7, .inl f8, .inl f9]) (F' := [.inl r7.1, .inl r7.2.1, .inl f2, .inr 2, .inl f4, .inl r7.2.2.1, .inl f6, .inl f7, .inl f8, .inl f9]) (G := [g0, g1, g2, g3, g4, g5, g6]) (G' := [g0, r7.2.2.2.1, r7.2.2.2.2, g3, g4, g5, g6]) (ρ := [0, 1, 2, 3, 4]) (φ := [0, 1, 2, 3, 5]) (ψ := [0, 1, 2]) [some 0, some 1, some 2, some 3, none, some 4, none, none, none, none] [some 0, some 1, some 2, none, none, none, none] zyw_LawReader_readSum zyw_LawReader_readClause zye_LawReader_readClause (by decide +kernel) (zt_LawReader_readSum hr7) ⟨⟨_, rfl, fun _ => rfl⟩, ⟨_, rfl, fun _ => rfl⟩, ⟨_, rfl, fun _ => rfl⟩, ⟨_, rfl, fun _ => rfl⟩, ⟨_, rfl, fun _ => rfl⟩, trivial⟩ ⟨rfl, rfl, rfl, trivial⟩ rfl rfl rfl rfl rfl rfl rfl) zd39_101 zxt43 rfl (by decide) (by decide) rfl ?_
        refine zv_ald hB zd39_104 rfl rfl rfl ?_
        refine zv_getq hB zd39_105 rfl rfl rfl ?_
        refine zv_getf hB zd39_108 rfl rfl (fun _ _ => ?_)
        refine zv_ist hB zd39_111 rfl rfl rfl ?_
        refine zv_ald hB zd39_113 rfl rfl rfl ?_
        refine zv_con hB zd39_114 rfl ?_
        obtain ⟨r8, hr8, h⟩ := zi_bind h
        refine zv_cv hB (zv_emq (va2 := [.inr 0, .inl 40]) (F := [.inl r7.1, .inl r7.2.1, .inl f2, .inr 2, .inl f4, .inl r7.2.2.1, .inl f6, .inl f7, .inl f8, .inl f9]) (F' := [.inl r8.1, .inl r8.2, .inl f2, .inr 2, .inl f4, .inl r7.2.2.1, .inl f6, .inl f7, .inl f8, .inl f9]) (G := [g0, r7.2.2.2.1, r7.2.2.2.2, g3, g4, g5, g6]) (G' := [g0, r7.2.2.2.1, r7.2.2.2.2, g3, g4, g5, g6]) (ρ := [0, 1]) (φ := [0, 1, 2]) (ψ := [0]) [some 0, some 1, some 2, none, none, none, none, none, none, none] [some 0, none, none, none, none, none, none] zyw_LawReader_skip zyw_LawReader_readClause zye_LawReader_readClause (by decide +kernel) (zt_LawReader_skip hr8) ⟨⟨_, rfl, fun _ => rfl⟩, ⟨_, rfl, fun _ => rfl⟩, ⟨_, rfl, fun _ => rfl⟩, trivial⟩ ⟨rfl, trivial⟩ rfl rfl rfl rfl rfl rfl rfl) zd39_116 zxt46 rfl (by decide) (by decide) rfl ?_
        refine zv_ald hB zd39_119 rfl rfl rfl ?_
        refine zv_con hB zd39_120 rfl ?_
        obtain ⟨r9, hr9, h⟩ := zi_bind h
        refine zv_cv hB (zv_emq (va2 := [.inr 0, .inl 1]) (F := [.inl r8.1, .inl r8.2, .inl f2, .inr 2, .inl f4, .inl r7.2.2.1, .inl f6, .inl f7, .inl f8, .inl f9]) (F' := [.inl r9.1, .inl r9.2.1, .inl f2, .inr 2, .inl f4, .inl r9.2.2.1, .inl f6, .inl f7, .inl f8, .inl f9]) (G := [g0, r7.2.2.2.1, r7.2.2.2.2, g3, g4, g5, g6]) (G' := [g0, r9.2.2.2.1, r9.2.2.2.2, g3, g4, g5, g6]) (ρ := [0, 1, 2, 3, 4]) (φ := [0, 1, 2, 3, 5]) (ψ := [0, 1, 2]) [some 0, some 1, some 2, some 3, none, some 4, none, none, none, none] [some 0, some 1, some 2, none, none, none, none] zyw_LawReader_readCondition zyw_LawReader_readClause zye_LawReader_readClause (by decide +kernel) (zt_LawReader_readCondition hr9) ⟨⟨_, rfl, fun _ => rfl⟩, ⟨_, rfl, fun _ => rfl⟩, ⟨_, rfl, fun _ => rfl⟩, ⟨_, rfl, fun _ => rfl⟩, ⟨_, rfl, fun _ => rfl⟩, trivial⟩ ⟨rfl, rfl, rfl, trivial⟩ rfl rfl rfl rfl rfl rfl rfl) zd39_121 zxt69 rfl (by decide) (by decide) rfl ?_
        refine zv_ald hB zd39_124 rfl rfl rfl ?_
        refine zv_con hB zd39_125 rfl ?_
        obtain ⟨r10, hr10, h⟩ := zi_bind h
        refine zv_cv hB (zv_emq (va2 := [.inr 0, .inl 41]) (F := [.inl r9.1, .inl r9.2.1, .inl f2, .inr 2, .inl f4, .inl r9.2.2.1, .inl f6, .inl f7, .inl f8, .inl f9]) (F' := [.inl r10.1, .inl r10.2, .inl f2, .inr 2, .inl f4, .inl r9.2.2.1, .inl f6, .inl f7, .inl f8, .inl f9]) (G := [g0, r9.2.2.2.1, r9.2.2.2.2, g3, g4, g5, g6]) (G' := [g0, r9.2.2.2.1, r9.2.2.2.2, g3, g4, g5, g6]) (ρ := [0, 1]) (φ := [0, 1, 2]) (ψ := [0]) [some 0, some 1, some 2, none, none, none, none, none, none, none] [some 0, none, none, none, none, none, none] zyw_LawReader_skip zyw_LawReader_readClause zye_LawReader_readClause (by decide +kernel) (zt_LawReader_skip hr10) ⟨⟨_, rfl, fun _ => rfl⟩, ⟨_, rfl, fun _ => rfl⟩, ⟨_, rfl, fun _ => rfl⟩, trivial⟩ ⟨rfl, trivial⟩ rfl rfl rfl rfl rfl rfl rfl) zd39_127 zxt46 rfl (by decide) (by decide) rfl ?_
        refine zv_ald hB zd39_130 rfl rfl rfl ?_
        refine zv_getq hB zd39_131 rfl rfl rfl ?_
        refine zv_ild hB zd39_134 rfl rfl ?_
        refine zv_ild hB zd39_135 rfl rfl ?_
        refine zv_ild hB zd39_136 rfl rfl ?_
        obtain ⟨r11, hr11, h⟩ := zi_bind h
        refine zv_cv hB (zv_emq (va2 := [.inr 2, .inl r2, .inl f5, .inl r7.2.2.1]) (F := [.inl r10.1, .inl r10.2, .inl f2, .inr 2, .inl f4, .inl r9.2.2.1, .inl f6, .inl f7, .inl f8, .inl f9]) (F' := [.inl r10.1, .inl r10.2, .inl f2, .inr 2, .inl r11.1, .inl r9.2.2.1, .inl r11.2.1, .inl r11.2.2.1, .inl r11.2.2.2.1, .inl r11.2.2.2.2.1]) (G := [g0, r9.2.2.2.1, r9.2.2.2.2, g3, g4, g5, g6]) (G' := [g0, r9.2.2.2.1, r9.2.2.2.2, r11.2.2.2.2.2.1, r11.2.2.2.2.2.2.1, r11.2.2.2.2.2.2.2.1, r11.2.2.2.2.2.2.2.2]) (ρ := [2, 5, 6, 7, 8, 3, 4]) (φ := [4, 5, 6, 7, 8, 9]) (ψ := [3, 4, 5, 6, 1, 2]) [none, none, none, none, some 0, some 1, some 2, some 3, some 4, some 5] [none, some 4, some 5, some 0, some 1, some 2, some 3] zyw_Law_addClause zyw_LawReader_readClause zye_LawReader_readClause (by decide +kernel) (zt_Law_addClause hr11) ⟨⟨_, rfl, fun _ => rfl⟩, ⟨_, rfl, fun _ => rfl⟩, ⟨_, rfl, fun _ => rfl⟩, ⟨_, rfl, fun _ => rfl⟩, ⟨_, rfl, fun _ => rfl⟩, ⟨_, rfl, fun _ => rfl⟩, trivial⟩ ⟨rfl, rfl, rfl, rfl, rfl, rfl, trivial⟩ rfl rfl rfl rfl rfl rfl rfl) zd39_138 zxt74 rfl (by decide) (by decide) rfl ?_
        have hw := Option.some.inj h
        subst hw
        exact hvret _ _ _ _ zd39_141 trivial ⟨rfl, rfl, rfl⟩
      · rw [if_pos hc5] at h
        refine zv_ald hB zd39_71 rfl rfl rfl ?_
        refine zv_con hB zd39_72 rfl ?_
        obtain ⟨r12, hr12, h⟩ := zi_bind h
        refine zv_cv hB (zv_emq (va2 := [.inr 0, .inl 4]) (F := [.inl f0, .inl f1, .inl f2, .inr 2, .inl f4, .inl f5, .inl f6, .inl f7, .inl f8, .inl f9]) (F' := [.inl r12, .inl f1, .inl f2, .inr 2, .inl f4, .inl f5, .inl f6, .inl f7, .inl f8, .inl f9]) (G := [g0, g1, g2, g3, g4, g5, g6]) (G' := [g0, g1, g2, g3, g4, g5, g6]) (ρ := [0]) (φ := [0, 1]) (ψ := []) [some 0, some 1, none, none, none, none, none, none, none, none] [none, none, none, none, none, none, none] zyw_LawReader_fail zyw_LawReader_readClause zye_LawReader_readClause (by decide +kernel) (zt_LawReader_fail hr12) ⟨⟨_, rfl, fun _ => rfl⟩, ⟨_, rfl, fun _ => rfl⟩, trivial⟩ trivial rfl rfl rfl rfl rfl rfl rfl) zd39_73 zxt41 rfl (by decide) (by decide) rfl ?_
        have hw := Option.some.inj h
        subst hw
        exact hvret _ _ _ _ zd39_76 trivial ⟨rfl, rfl, rfl⟩
    · rw [if_neg hc3] at h
      refine zv_ild hB zd39_19 rfl rfl ?_
      refine zv_con hB zd39_20 rfl ?_
      refine zv_ceq hB zd39_22 rfl (fun hc13 => ?_) (fun hc13 => ?_)
      · rw [if_pos hc13] at h
        refine zv_con hB zd39_31 rfl ?_
        refine zv_goto hB zd39_32 rfl ?_
        refine zv_ist hB zd39_36 rfl rfl rfl ?_
        refine zv_ild hB zd39_37 rfl rfl ?_
        refine zv_zne hB zd39_38 rfl (fun _ => ?_) (fun hc => absurd hc (by decide))
        refine zv_ald hB zd39_59 rfl rfl rfl ?_
        refine zv_getq hB zd39_60 rfl rfl rfl ?_
        refine zv_getf hB zd39_63 rfl rfl (fun _ _ => ?_)
        refine zv_con hB zd39_66 rfl ?_
        refine zv_cne hB zd39_68 rfl (fun hc15 => ?_) (fun hc15 => ?_)
        · rw [if_neg hc15] at h
          refine zv_ald hB zd39_77 rfl rfl rfl ?_
          refine zv_dup hB zd39_78 rfl ?_
          refine zv_getf hB zd39_79 rfl rfl (fun _ _ => ?_)
          refine zv_con hB zd39_82 rfl ?_
          refine zv_addw hB zd39_83 ?_
          refine zv_putf hB zd39_84 rfl rfl (fun h => by cases h) rfl ?_
          refine zv_ald hB zd39_87 rfl rfl rfl ?_
          refine zv_getq hB zd39_88 rfl rfl rfl ?_
          refine zv_getf hB zd39_91 rfl rfl (fun _ _ => ?_)
          refine zv_ist hB zd39_94 rfl rfl rfl ?_
          refine zv_ild hB zd39_95 rfl rfl ?_
          refine zv_zeq hB zd39_96 rfl (fun hc => absurd hc (by decide)) (fun _ => ?_)
          refine zv_ald hB zd39_99 rfl rfl rfl ?_
          refine zv_con hB zd39_100 rfl ?_
          obtain ⟨r17, hr17, h⟩ := zi_bind h
          refine zv_cv hB (zv_emq (va2 := [.inr 0, .inl 0]) (F := [.inl f0, .inl (zi_w (f1 + 1)), .inl f2, .inr 2, .inl f4, .inl f5, .inl f6, .inl f7, .inl f8, .inl f9]) (F' := [.inl r17.1, .inl r17.2.1, .inl f2, .inr 2, .inl f4, .inl r17.2.2.1, .inl f6, .inl f7, .inl f8, .inl f9]) (G := [g0, g1, g2, g3, g4, g5, g6]) (G' := [g0, r17.2.2.2.1, r17.2.2.2.2, g3, g4, g5, g6]) (ρ := [0, 1, 2, 3, 4]) (φ := [0, 1, 2, 3, 5]) (ψ := [0, 1, 2]) [some 0, some 1, some 2, some 3, none, some 4, none, none, none, none] [some 0, some 1, some 2, none, none, none, none] zyw_LawReader_readSum zyw_LawReader_readClause zye_LawReader_readClause (by decide +kernel) (zt_LawReader_readSum hr17) ⟨⟨_, rfl, fun _ => rfl⟩, ⟨_, rfl, fun _ => rfl⟩, ⟨_, rfl, fun _ => rfl⟩, ⟨_, rfl, fun _ => rfl⟩, ⟨_, rfl, fun _ => rfl⟩, trivial⟩ ⟨rfl, rfl, rfl, trivial⟩ rfl rfl rfl rfl rfl rfl rfl) zd39_101 zxt43 rfl (by decide) (by decide) rfl ?_
          refine zv_ald hB zd39_104 rfl rfl rfl ?_
          refine zv_getq hB zd39_105 rfl rfl rfl ?_
          refine zv_getf hB zd39_108 rfl rfl (fun _ _ => ?_)
          refine zv_ist hB zd39_111 rfl rfl rfl ?_
          refine zv_ald hB zd39_113 rfl rfl rfl ?_
          refine zv_con hB zd39_114 rfl ?_
          obtain ⟨r18, hr18, h⟩ := zi_bind h
          refine zv_cv hB (zv_emq (va2 := [.inr 0, .inl 40]) (F := [.inl r17.1, .inl r17.2.1, .inl f2, .inr 2, .inl f4, .inl r17.2.2.1, .inl f6, .inl f7, .inl f8, .inl f9]) (F' := [.inl r18.1, .inl r18.2, .inl f2, .inr 2, .inl f4, .inl r17.2.2.1, .inl f6, .inl f7, .inl f8, .inl f9]) (G := [g0, r17.2.2.2.1, r17.2.2.2.2, g3, g4, g5, g6]) (G' := [g0, r17.2.2.2.1, r17.2.2.2.2, g3, g4, g5, g6]) (ρ := [0, 1]) (φ := [0, 1, 2]) (ψ := [0]) [some 0, some 1, some 2, none, none, none, none, none, none, none] [some 0, none, none, none, none, none, none] zyw_LawReader_skip zyw_LawReader_readClause zye_LawReader_readClause (by decide +kernel) (zt_LawReader_skip hr18) ⟨⟨_, rfl, fun _ => rfl⟩, ⟨_, rfl, fun _ => rfl⟩, ⟨_, rfl, fun _ => rfl⟩, trivial⟩ ⟨rfl, trivial⟩ rfl rfl rfl rfl rfl rfl rfl) zd39_116 zxt46 rfl (by decide) (by decide) rfl ?_
          refine zv_ald hB zd39_119 rfl rfl rfl ?_
          refine zv_con hB zd39_120 rfl ?_
          obtain ⟨r19, hr19, h⟩ := zi_bind h
          refine zv_cv hB (zv_emq (va2 := [.inr 0, .inl 1]) (F := [.inl r18.1, .inl r18.2, .inl f2, .inr 2, .inl f4, .inl r17.2.2.1, .inl f6, .inl f7, .inl f8, .inl f9]) (F' := [.inl r19.1, .inl r19.2.1, .inl f2, .inr 2, .inl f4, .inl r19.2.2.1, .inl f6, .inl f7, .inl f8, .inl f9]) (G := [g0, r17.2.2.2.1, r17.2.2.2.2, g3, g4, g5, g6]) (G' := [g0, r19.2.2.2.1, r19.2.2.2.2, g3, g4, g5, g6]) (ρ := [0, 1, 2, 3, 4]) (φ := [0, 1, 2, 3, 5]) (ψ := [0, 1, 2]) [some 0, some 1, some 2, some 3, none, some 4, none, none, none, none] [some 0, some 1, some 2, none, none, none, none] zyw_LawReader_readCondition zyw_LawReader_readClause zye_LawReader_readClause (by decide +kernel) (zt_LawReader_readCondition hr19) ⟨⟨_, rfl, fun _ => rfl⟩, ⟨_, rfl, fun _ => rfl⟩, ⟨_, rfl, fun _ => rfl⟩, ⟨_, rfl, fun _ => rfl⟩, ⟨_, rfl, fun _ => rfl⟩, trivial⟩ ⟨rfl, rfl, rfl, trivial⟩ rfl rfl rfl rfl rfl rfl rfl) zd39_121 zxt69 rfl (by decide) (by decide) rfl ?_
          refine zv_ald hB zd39_124 rfl rfl rfl ?_
          refine zv_con hB zd39_125 rfl ?_
          obtain ⟨r20, hr20, h⟩ := zi_bind h
          refine zv_cv hB (zv_emq (va2 := [.inr 0, .inl 41]) (F := [.inl r19.1, .inl r19.2.1, .inl f2, .inr 2, .inl f4, .inl r19.2.2.1, .inl f6, .inl f7, .inl f8, .inl f9]) (F' := [.inl r20.1, .inl r20.2, .inl f2, .inr 2, .inl f4, .inl r19.2.2.1, .inl f6, .inl f7, .inl f8, .inl f9]) (G := [g0, r19.2.2.2.1, r19.2.2.2.2, g3, g4, g5, g6]) (G' := [g0, r19.2.2.2.1, r19.2.2.2.2, g3, g4, g5, g6]) (ρ := [0, 1]) (φ := [0, 1, 2]) (ψ := [0]) [some 0, some 1, some 2, none, none, none, none, none, none, none] [some 0, none, none, none, none, none, none] zyw_LawReader_skip zyw_LawReader_readClause zye_LawReader_readClause (by decide +kernel) (zt_LawReader_skip hr20) ⟨⟨_, rfl, fun _ => rfl⟩, ⟨_, rfl, fun _ => rfl⟩, ⟨_, rfl, fun _ => rfl⟩, trivial⟩ ⟨rfl, trivial⟩ rfl rfl rfl rfl rfl rfl rfl) zd39_127 zxt46 rfl (by decide) (by decide) rfl ?_
          refine zv_ald hB zd39_130 rfl rfl rfl ?_
          refine zv_getq hB zd39_131 rfl rfl rfl ?_
          refine zv_ild hB zd39_134 rfl rfl ?_
          refine zv_ild hB zd39_135 rfl rfl ?_
          refine zv_ild hB zd39_136 rfl rfl ?_
          obtain ⟨r21, hr21, h⟩ := zi_bind h
          refine zv_cv hB (zv_emq (va2 := [.inr 2, .inl r2, .inl f5, .inl r17.2.2.1]) (F := [.inl r20.1, .inl r20.2, .inl f2, .inr 2, .inl f4, .inl r19.2.2.1, .inl f6, .inl f7, .inl f8, .inl f9]) (F' := [.inl r20.1, .inl r20.2, .inl f2, .inr 2, .inl r21.1, .inl r19.2.2.1, .inl r21.2.1, .inl r21.2.2.1, .inl r21.2.2.2.1, .inl r21.2.2.2.2.1]) (G := [g0, r19.2.2.2.1, r19.2.2.2.2, g3, g4, g5, g6]) (G' := [g0, r19.2.2.2.1, r19.2.2.2.2, r21.2.2.2.2.2.1, r21.2.2.2.2.2.2.1, r21.2.2.2.2.2.2.2.1, r21.2.2.2.2.2.2.2.2]) (ρ := [2, 5, 6, 7, 8, 3, 4]) (φ := [4, 5, 6, 7, 8, 9]) (ψ := [3, 4, 5, 6, 1, 2]) [none, none, none, none, some 0, some 1, some 2, some 3, some 4, some 5] [none, some 4, some 5, some 0, some 1, some 2, some 3] zyw_Law_addClause zyw_LawReader_readClause zye_LawReader_readClause (by decide +kernel) (zt_Law_addClause hr21) ⟨⟨_, rfl, fun _ => rfl⟩, ⟨_, rfl, fun _ => rfl⟩, ⟨_, rfl, fun _ => rfl⟩, ⟨_, rfl, fun _ => rfl⟩, ⟨_, rfl, fun _ => rfl⟩, ⟨_, rfl, fun _ => rfl⟩, trivial⟩ ⟨rfl, rfl, rfl, rfl, rfl, rfl, trivial⟩ rfl rfl rfl rfl rfl rfl rfl) zd39_138 zxt74 rfl (by decide) (by decide) rfl ?_
          have hw := Option.some.inj h
          subst hw
          exact hvret _ _ _ _ zd39_141 trivial ⟨rfl, rfl, rfl⟩
        · rw [if_pos hc15] at h
          refine zv_ald hB zd39_71 rfl rfl rfl ?_
          refine zv_con hB zd39_72 rfl ?_
          obtain ⟨r22, hr22, h⟩ := zi_bind h
          refine zv_cv hB (zv_emq (va2 := [.inr 0, .inl 4]) (F := [.inl f0, .inl f1, .inl f2, .inr 2, .inl f4, .inl f5, .inl f6, .inl f7, .inl f8, .inl f9]) (F' := [.inl r22, .inl f1, .inl f2, .inr 2, .inl f4, .inl f5, .inl f6, .inl f7, .inl f8, .inl f9]) (G := [g0, g1, g2, g3, g4, g5, g6]) (G' := [g0, g1, g2, g3, g4, g5, g6]) (ρ := [0]) (φ := [0, 1]) (ψ := []) [some 0, some 1, none, none, none, none, none, none, none, none] [none, none, none, none, none, none, none] zyw_LawReader_fail zyw_LawReader_readClause zye_LawReader_readClause (by decide +kernel) (zt_LawReader_fail hr22) ⟨⟨_, rfl, fun _ => rfl⟩, ⟨_, rfl, fun _ => rfl⟩, trivial⟩ trivial rfl rfl rfl rfl rfl rfl rfl) zd39_73 zxt41 rfl (by decide) (by decide) rfl ?_
          have hw := Option.some.inj h
          subst hw
          exact hvret _ _ _ _ zd39_76 trivial ⟨rfl, rfl, rfl⟩
      · rw [if_neg hc13] at h
        refine zv_ild hB zd39_25 rfl rfl ?_
        refine zv_con hB zd39_26 rfl ?_
        refine zv_cne hB zd39_28 rfl (fun hc23 => ?_) (fun hc23 => ?_)
        · rw [if_neg hc23] at h
          refine zv_con hB zd39_35 rfl ?_
          refine zv_ist hB zd39_36 rfl rfl rfl ?_
          refine zv_ild hB zd39_37 rfl rfl ?_
          refine zv_zne hB zd39_38 rfl (fun hc => absurd hc (by decide)) (fun _ => ?_)
          refine zv_ild hB zd39_41 rfl rfl ?_
          refine zv_con hB zd39_42 rfl ?_
          refine zv_ceq hB zd39_44 rfl (fun hc25 => ?_) (fun hc25 => ?_)
          · rw [if_pos hc25] at h
            refine zv_ald hB zd39_59 rfl rfl rfl ?_
            refine zv_getq hB zd39_60 rfl rfl rfl ?_
            refine zv_getf hB zd39_63 rfl rfl (fun _ _ => ?_)
            refine zv_con hB zd39_66 rfl ?_
            refine zv_cne hB zd39_68 rfl (fun hc26 => ?_) (fun hc26 => ?_)
            · rw [if_neg hc26] at h
              refine zv_ald hB zd39_77 rfl rfl rfl ?_
              refine zv_dup hB zd39_78 rfl ?_
              refine zv_getf hB zd39_79 rfl rfl (fun _ _ => ?_)
              refine zv_con hB zd39_82 rfl ?_
              refine zv_addw hB zd39_83 ?_
              refine zv_putf hB zd39_84 rfl rfl (fun h => by cases h) rfl ?_
              refine zv_ald hB zd39_87 rfl rfl rfl ?_
              refine zv_getq hB zd39_88 rfl rfl rfl ?_
              refine zv_getf hB zd39_91 rfl rfl (fun _ _ => ?_)
              refine zv_ist hB zd39_94 rfl rfl rfl ?_
              refine zv_ild hB zd39_95 rfl rfl ?_
              refine zv_zeq hB zd39_96 rfl (fun _ => ?_) (fun hc => absurd hc (by decide))
              refine zv_ald hB zd39_104 rfl rfl rfl ?_
              refine zv_getq hB zd39_105 rfl rfl rfl ?_
              refine zv_getf hB zd39_108 rfl rfl (fun _ _ => ?_)
              refine zv_ist hB zd39_111 rfl rfl rfl ?_
              refine zv_ald hB zd39_113 rfl rfl rfl ?_
              refine zv_con hB zd39_114 rfl ?_
              obtain ⟨r28, hr28, h⟩ := zi_bind h
              refine zv_cv hB (zv_emq (va2 := [.inr 0, .inl 40]) (F := [.inl f0, .inl (zi_w (f1 + 1)), .inl f2, .inr 2, .inl f4, .inl f5, .inl f6, .inl f7, .inl f8, .inl f9]) (F' := [.inl r28.1, .inl r28.2, .inl f2, .inr 2, .inl f4, .inl f5, .inl f6, .inl f7, .inl f8, .inl f9]) (G := [g0, g1, g2, g3, g4, g5, g6]) (G' := [g0, g1, g2, g3, g4, g5, g6]) (ρ := [0, 1]) (φ := [0, 1, 2]) (ψ := [0]) [some 0, some 1, some 2, none, none, none, none, none, none, none] [some 0, none, none, none, none, none, none] zyw_LawReader_skip zyw_LawReader_readClause zye_LawReader_readClause (by decide +kernel) (zt_LawReader_skip hr28) ⟨⟨_, rfl, fun _ => rfl⟩, ⟨_, rfl, fun _ => rfl⟩, ⟨_, rfl, fun _ => rfl⟩, trivial⟩ ⟨rfl, trivial⟩ rfl rfl rfl rfl rfl rfl rfl) zd39_116 zxt46 rfl (by decide) (by decide) rfl ?_
              refine zv_ald hB zd39_119 rfl rfl rfl ?_
              refine zv_con hB zd39_120 rfl ?_
              obtain ⟨r29, hr29, h⟩ := zi_bind h
              refine zv_cv hB (zv_emq (va2 := [.inr 0, .inl 1]) (F := [.inl r28.1, .inl r28.2, .inl f2, .inr 2, .inl f4, .inl f5, .inl f6, .inl f7, .inl f8, .inl f9]) (F' := [.inl r29.1, .inl r29.2.1, .inl f2, .inr 2, .inl f4, .inl r29.2.2.1, .inl f6, .inl f7, .inl f8, .inl f9]) (G := [g0, g1, g2, g3, g4, g5, g6]) (G' := [g0, r29.2.2.2.1, r29.2.2.2.2, g3, g4, g5, g6]) (ρ := [0, 1, 2, 3, 4]) (φ := [0, 1, 2, 3, 5]) (ψ := [0, 1, 2]) [some 0, some 1, some 2, some 3, none, some 4, none, none, none, none] [some 0, some 1, some 2, none, none, none, none] zyw_LawReader_readCondition zyw_LawReader_readClause zye_LawReader_readClause (by decide +kernel) (zt_LawReader_readCondition hr29) ⟨⟨_, rfl, fun _ => rfl⟩, ⟨_, rfl, fun _ => rfl⟩, ⟨_, rfl, fun _ => rfl⟩, ⟨_, rfl, fun _ => rfl⟩, ⟨_, rfl, fun _ => rfl⟩, trivial⟩ ⟨rfl, rfl, rfl, trivial⟩ rfl rfl rfl rfl rfl rfl rfl) zd39_121 zxt69 rfl (by decide) (by decide) rfl ?_
              refine zv_ald hB zd39_124 rfl rfl rfl ?_
              refine zv_con hB zd39_125 rfl ?_
              obtain ⟨r30, hr30, h⟩ := zi_bind h
              refine zv_cv hB (zv_emq (va2 := [.inr 0, .inl 41]) (F := [.inl r29.1, .inl r29.2.1, .inl f2, .inr 2, .inl f4, .inl r29.2.2.1, .inl f6, .inl f7, .inl f8, .inl f9]) (F' := [.inl r30.1, .inl r30.2, .inl f2, .inr 2, .inl f4, .inl r29.2.2.1, .inl f6, .inl f7, .inl f8, .inl f9]) (G := [g0, r29.2.2.2.1, r29.2.2.2.2, g3, g4, g5, g6]) (G' := [g0, r29.2.2.2.1, r29.2.2.2.2, g3, g4, g5, g6]) (ρ := [0, 1]) (φ := [0, 1, 2]) (ψ := [0]) [some 0, some 1, some 2, none, none, none, none, none, none, none] [some 0, none, none, none, none, none, none] zyw_LawReader_skip zyw_LawReader_readClause zye_LawReader_readClause (by decide +kernel) (zt_LawReader_skip hr30) ⟨⟨_, rfl, fun _ => rfl⟩, ⟨_, rfl, fun _ => rfl⟩, ⟨_, rfl, fun _ => rfl⟩, trivial⟩ ⟨rfl, trivial⟩ rfl rfl rfl rfl rfl rfl rfl) zd39_127 zxt46 rfl (by decide) (by decide) rfl ?_
              refine zv_ald hB zd39_130 rfl rfl rfl ?_
              refine zv_getq hB zd39_131 rfl rfl rfl ?_
              refine zv_ild hB zd39_134 rfl rfl ?_
              refine zv_ild hB zd39_135 rfl rfl ?_
              refine zv_ild hB zd39_136 rfl rfl ?_
              obtain ⟨r31, hr31, h⟩ := zi_bind h
              refine zv_cv hB (zv_emq (va2 := [.inr 2, .inl r2, .inl f5, .inl f5]) (F := [.inl r30.1, .inl r30.2, .inl f2, .inr 2, .inl f4, .inl r29.2.2.1, .inl f6, .inl f7, .inl f8, .inl f9]) (F' := [.inl r30.1, .inl r30.2, .inl f2, .inr 2, .inl r31.1, .inl r29.2.2.1, .inl r31.2.1, .inl r31.2.2.1, .inl r31.2.2.2.1, .inl r31.2.2.2.2.1]) (G := [g0, r29.2.2.2.1, r29.2.2.2.2, g3, g4, g5, g6]) (G' := [g0, r29.2.2.2.1, r29.2.2.2.2, r31.2.2.2.2.2.1, r31.2.2.2.2.2.2.1, r31.2.2.2.2.2.2.2.1, r31.2.2.2.2.2.2.2.2]) (ρ := [2, 5, 6, 7, 8, 3, 4]) (φ := [4, 5, 6, 7, 8, 9]) (ψ := [3, 4, 5, 6, 1, 2]) [none, none, none, none, some 0, some 1, some 2, some 3, some 4, some 5] [none, some 4, some 5, some 0, some 1, some 2, some 3] zyw_Law_addClause zyw_LawReader_readClause zye_LawReader_readClause (by decide +kernel) (zt_Law_addClause hr31) ⟨⟨_, rfl, fun _ => rfl⟩, ⟨_, rfl, fun _ => rfl⟩, ⟨_, rfl, fun _ => rfl⟩, ⟨_, rfl, fun _ => rfl⟩, ⟨_, rfl, fun _ => rfl⟩, ⟨_, rfl, fun _ => rfl⟩, trivial⟩ ⟨rfl, rfl, rfl, rfl, rfl, rfl, trivial⟩ rfl rfl rfl rfl rfl rfl rfl) zd39_138 zxt74 rfl (by decide) (by decide) rfl ?_
              have hw := Option.some.inj h
              subst hw
              exact hvret _ _ _ _ zd39_141 trivial ⟨rfl, rfl, rfl⟩
            · rw [if_pos hc26] at h
              refine zv_ald hB zd39_71 rfl rfl rfl ?_
              refine zv_con hB zd39_72 rfl ?_
              obtain ⟨r32, hr32, h⟩ := zi_bind h
              refine zv_cv hB (zv_emq (va2 := [.inr 0, .inl 4]) (F := [.inl f0, .inl f1, .inl f2, .inr 2, .inl f4, .inl f5, .inl f6, .inl f7, .inl f8, .inl f9]) (F' := [.inl r32, .inl f1, .inl f2, .inr 2, .inl f4, .inl f5, .inl f6, .inl f7, .inl f8, .inl f9]) (G := [g0, g1, g2, g3, g4, g5, g6]) (G' := [g0, g1, g2, g3, g4, g5, g6]) (ρ := [0]) (φ := [0, 1]) (ψ := []) [some 0, some 1, none, none, none, none, none, none, none, none] [none, none, none, none, none, none, none] zyw_LawReader_fail zyw_LawReader_readClause zye_LawReader_readClause (by decide +kernel) (zt_LawReader_fail hr32) ⟨⟨_, rfl, fun _ => rfl⟩, ⟨_, rfl, fun _ => rfl⟩, trivial⟩ trivial rfl rfl rfl rfl rfl rfl rfl) zd39_73 zxt41 rfl (by decide) (by decide) rfl ?_
              have hw := Option.some.inj h
              subst hw
              exact hvret _ _ _ _ zd39_76 trivial ⟨rfl, rfl, rfl⟩
          · rw [if_neg hc25] at h
            refine zv_ild hB zd39_47 rfl rfl ?_
            refine zv_con hB zd39_48 rfl ?_
            refine zv_ceq hB zd39_50 rfl (fun hc33 => ?_) (fun hc33 => ?_)
            · rw [if_pos hc33] at h
              refine zv_ald hB zd39_59 rfl rfl rfl ?_
              refine zv_getq hB zd39_60 rfl rfl rfl ?_
              refine zv_getf hB zd39_63 rfl rfl (fun _ _ => ?_)
              refine zv_con hB zd39_66 rfl ?_
              refine zv_cne hB zd39_68 rfl (fun hc34 => ?_) (fun hc34 => ?_)
              · rw [if_neg hc34] at h
                refine zv_ald hB zd39_77 rfl rfl rfl ?_
                refine zv_dup hB zd39_78 rfl ?_
                refine zv_getf hB zd39_79 rfl rfl (fun _ _ => ?_)
                refine zv_con hB zd39_82 rfl ?_
                refine zv_addw hB zd39_83 ?_
                refine zv_putf hB zd39_84 rfl rfl (fun h => by cases h) rfl ?_
                refine zv_ald hB zd39_87 rfl rfl rfl ?_
                refine zv_getq hB zd39_88 rfl rfl rfl ?_
                refine zv_getf hB zd39_91 rfl rfl (fun _ _ => ?_)
                refine zv_ist hB zd39_94 rfl rfl rfl ?_
                refine zv_ild hB zd39_95 rfl rfl ?_
                refine zv_zeq hB zd39_96 rfl (fun _ => ?_) (fun hc => absurd hc (by decide))
                refine zv_ald hB zd39_104 rfl rfl rfl ?_
                refine zv_getq hB zd39_105 rfl rfl rfl ?_
                refine zv_getf hB zd39_108 rfl rfl (fun _ _ => ?_)
                refine zv_ist hB zd39_111 rfl rfl rfl ?_
                refine zv_ald hB zd39_113 rfl rfl rfl ?_
                refine zv_con hB zd39_114 rfl ?_
                obtain ⟨r36, hr36, h⟩ := zi_bind h
                refine zv_cv hB (zv_emq (va2 := [.inr 0, .inl 40]) (F := [.inl f0, .inl (zi_w (f1 + 1)), .inl f2, .inr 2, .inl f4, .inl f5, .inl f6, .inl f7, .inl f8, .inl f9]) (F' := [.inl r36.1, .inl r36.2, .inl f2, .inr 2, .inl f4, .inl f5, .inl f6, .inl f7, .inl f8, .inl f9]) (G := [g0, g1, g2, g3, g4, g5, g6]) (G' := [g0, g1, g2, g3, g4, g5, g6]) (ρ := [0, 1]) (φ := [0, 1, 2]) (ψ := [0]) [some 0, some 1, some 2, none, none, none, none, none, none, none] [some 0, none, none, none, none, none, none] zyw_LawReader_skip zyw_LawReader_readClause zye_LawReader_readClause (by decide +kernel) (zt_LawReader_skip hr36) ⟨⟨_, rfl, fun _ => rfl⟩, ⟨_, rfl, fun _ => rfl⟩, ⟨_, rfl, fun _ => rfl⟩, trivial⟩ ⟨rfl, trivial⟩ rfl rfl rfl rfl rfl rfl rfl) zd39_116 zxt46 rfl (by decide) (by decide) rfl ?_
                refine zv_ald hB zd39_119 rfl rfl rfl ?_
                refine zv_con hB zd39_120 rfl ?_
                obtain ⟨r37, hr37, h⟩ := zi_bind h
                refine zv_cv hB (zv_emq (va2 := [.inr 0, .inl 1]) (F := [.inl r36.1, .inl r36.2, .inl f2, .inr 2, .inl f4, .inl f5, .inl f6, .inl f7, .inl f8, .inl f9]) (F' := [.inl r37.1, .inl r37.2.1, .inl f2, .inr 2, .inl f4, .inl r37.2.2.1, .inl f6, .inl f7, .inl f8, .inl f9]) (G := [g0, g1, g2, g3, g4, g5, g6]) (G' := [g0, r37.2.2.2.1, r37.2.2.2.2, g3, g4, g5, g6]) (ρ := [0, 1, 2, 3, 4]) (φ := [0, 1, 2, 3, 5]) (ψ := [0, 1, 2]) [some 0, some 1, some 2, some 3, none, some 4, none, none, none, none] [some 0, some 1, some 2, none, none, none, none] zyw_LawReader_readCondition zyw_LawReader_readClause zye_LawReader_readClause (by decide +kernel) (zt_LawReader_readCondition hr37) ⟨⟨_, rfl, fun _ => rfl⟩, ⟨_, rfl, fun _ => rfl⟩, ⟨_, rfl, fun _ => rfl⟩, ⟨_, rfl, fun _ => rfl⟩, ⟨_, rfl, fun _ => rfl⟩, trivial⟩ ⟨rfl, rfl, rfl, trivial⟩ rfl rfl rfl rfl rfl rfl rfl) zd39_121 zxt69 rfl (by decide) (by decide) rfl ?_
                refine zv_ald hB zd39_124 rfl rfl rfl ?_
                refine zv_con hB zd39_125 rfl ?_
                obtain ⟨r38, hr38, h⟩ := zi_bind h
                refine zv_cv hB (zv_emq (va2 := [.inr 0, .inl 41]) (F := [.inl r37.1, .inl r37.2.1, .inl f2, .inr 2, .inl f4, .inl r37.2.2.1, .inl f6, .inl f7, .inl f8, .inl f9]) (F' := [.inl r38.1, .inl r38.2, .inl f2, .inr 2, .inl f4, .inl r37.2.2.1, .inl f6, .inl f7, .inl f8, .inl f9]) (G := [g0, r37.2.2.2.1, r37.2.2.2.2, g3, g4, g5, g6]) (G' := [g0, r37.2.2.2.1, r37.2.2.2.2, g3, g4, g5, g6]) (ρ := [0, 1]) (φ := [0, 1, 2]) (ψ := [0]) [some 0, some 1, some 2, none, none, none, none, none, none, none] [some 0, none, none, none, none, none, none] zyw_LawReader_skip zyw_LawReader_readClause zye_LawReader_readClause (by decide +kernel) (zt_LawReader_skip hr38) ⟨⟨_, rfl, fun _ => rfl⟩, ⟨_, rfl, fun _ => rfl⟩, ⟨_, rfl, fun _ => rfl⟩, trivial⟩ ⟨rfl, trivial⟩ rfl rfl rfl rfl rfl rfl rfl) zd39_127 zxt46 rfl (by decide) (by decide) rfl ?_
                refine zv_ald hB zd39_130 rfl rfl rfl ?_
                refine zv_getq hB zd39_131 rfl rfl rfl ?_
                refine zv_ild hB zd39_134 rfl rfl ?_
                refine zv_ild hB zd39_135 rfl rfl ?_
                refine zv_ild hB zd39_136 rfl rfl ?_
                obtain ⟨r39, hr39, h⟩ := zi_bind h
                refine zv_cv hB (zv_emq (va2 := [.inr 2, .inl r2, .inl f5, .inl f5]) (F := [.inl r38.1, .inl r38.2, .inl f2, .inr 2, .inl f4, .inl r37.2.2.1, .inl f6, .inl f7, .inl f8, .inl f9]) (F' := [.inl r38.1, .inl r38.2, .inl f2, .inr 2, .inl r39.1, .inl r37.2.2.1, .inl r39.2.1, .inl r39.2.2.1, .inl r39.2.2.2.1, .inl r39.2.2.2.2.1]) (G := [g0, r37.2.2.2.1, r37.2.2.2.2, g3, g4, g5, g6]) (G' := [g0, r37.2.2.2.1, r37.2.2.2.2, r39.2.2.2.2.2.1, r39.2.2.2.2.2.2.1, r39.2.2.2.2.2.2.2.1, r39.2.2.2.2.2.2.2.2]) (ρ := [2, 5, 6, 7, 8, 3, 4]) (φ := [4, 5, 6, 7, 8, 9]) (ψ := [3, 4, 5, 6, 1, 2]) [none, none, none, none, some 0, some 1, some 2, some 3, some 4, some 5] [none, some 4, some 5, some 0, some 1, some 2, some 3] zyw_Law_addClause zyw_LawReader_readClause zye_LawReader_readClause (by decide +kernel) (zt_Law_addClause hr39) ⟨⟨_, rfl, fun _ => rfl⟩, ⟨_, rfl, fun _ => rfl⟩, ⟨_, rfl, fun _ => rfl⟩, ⟨_, rfl, fun _ => rfl⟩, ⟨_, rfl, fun _ => rfl⟩, ⟨_, rfl, fun _ => rfl⟩, trivial⟩ ⟨rfl, rfl, rfl, rfl, rfl, rfl, trivial⟩ rfl rfl rfl rfl rfl rfl rfl) zd39_138 zxt74 rfl (by decide) (by decide) rfl ?_
                have hw := Option.some.inj h
                subst hw
                exact hvret _ _ _ _ zd39_141 trivial ⟨rfl, rfl, rfl⟩
              · rw [if_pos hc34] at h
                refine zv_ald hB zd39_71 rfl rfl rfl ?_
                refine zv_con hB zd39_72 rfl ?_
                obtain ⟨r40, hr40, h⟩ := zi_bind h
                refine zv_cv hB (zv_emq (va2 := [.inr 0, .inl 4]) (F := [.inl f0, .inl f1, .inl f2, .inr 2, .inl f4, .inl f5, .inl f6, .inl f7, .inl f8, .inl f9]) (F' := [.inl r40, .inl f1, .inl f2, .inr 2, .inl f4, .inl f5, .inl f6, .inl f7, .inl f8, .inl f9]) (G := [g0, g1, g2, g3, g4, g5, g6]) (G' := [g0, g1, g2, g3, g4, g5, g6]) (ρ := [0]) (φ := [0, 1]) (ψ := []) [some 0, some 1, none, none, none, none, none, none, none, none] [none, none, none, none, none, none, none] zyw_LawReader_fail zyw_LawReader_readClause zye_LawReader_readClause (by decide +kernel) (zt_LawReader_fail hr40) ⟨⟨_, rfl, fun _ => rfl⟩, ⟨_, rfl, fun _ => rfl⟩, trivial⟩ trivial rfl rfl rfl rfl rfl rfl rfl) zd39_73 zxt41 rfl (by decide) (by decide) rfl ?_
                have hw := Option.some.inj h
                subst hw
                exact hvret _ _ _ _ zd39_76 trivial ⟨rfl, rfl, rfl⟩
            · rw [if_neg hc33] at h
              refine zv_ald hB zd39_53 rfl rfl rfl ?_
              refine zv_con hB zd39_54 rfl ?_
              obtain ⟨r41, hr41, h⟩ := zi_bind h
              refine zv_cv hB (zv_emq (va2 := [.inr 0, .inl 1]) (F := [.inl f0, .inl f1, .inl f2, .inr 2, .inl f4, .inl f5, .inl f6, .inl f7, .inl f8, .inl f9]) (F' := [.inl r41, .inl f1, .inl f2, .inr 2, .inl f4, .inl f5, .inl f6, .inl f7, .inl f8, .inl f9]) (G := [g0, g1, g2, g3, g4, g5, g6]) (G' := [g0, g1, g2, g3, g4, g5, g6]) (ρ := [0]) (φ := [0, 1]) (ψ := []) [some 0, some 1, none, none, none, none, none, none, none, none] [none, none, none, none, none, none, none] zyw_LawReader_fail zyw_LawReader_readClause zye_LawReader_readClause (by decide +kernel) (zt_LawReader_fail hr41) ⟨⟨_, rfl, fun _ => rfl⟩, ⟨_, rfl, fun _ => rfl⟩, trivial⟩ trivial rfl rfl rfl rfl rfl rfl rfl) zd39_55 zxt41 rfl (by decide) (by decide) rfl ?_
              have hw := Option.some.inj h
              subst hw
              exact hvret _ _ _ _ zd39_58 trivial ⟨rfl, rfl, rfl⟩
        · rw [if_pos hc23] at h
          refine zv_con hB zd39_31 rfl ?_
          refine zv_goto hB zd39_32 rfl ?_
          refine zv_ist hB zd39_36 rfl rfl rfl ?_
          refine zv_ild hB zd39_37 rfl rfl ?_
          refine zv_zne hB zd39_38 rfl (fun _ => ?_) (fun hc => absurd hc (by decide))
          refine zv_ald hB zd39_59 rfl rfl rfl ?_
          refine zv_getq hB zd39_60 rfl rfl rfl ?_
          refine zv_getf hB zd39_63 rfl rfl (fun _ _ => ?_)
          refine zv_con hB zd39_66 rfl ?_
          refine zv_cne hB zd39_68 rfl (fun hc43 => ?_) (fun hc43 => ?_)
          · rw [if_neg hc43] at h
            refine zv_ald hB zd39_77 rfl rfl rfl ?_
            refine zv_dup hB zd39_78 rfl ?_
            refine zv_getf hB zd39_79 rfl rfl (fun _ _ => ?_)
            refine zv_con hB zd39_82 rfl ?_
            refine zv_addw hB zd39_83 ?_
            refine zv_putf hB zd39_84 rfl rfl (fun h => by cases h) rfl ?_
            refine zv_ald hB zd39_87 rfl rfl rfl ?_
            refine zv_getq hB zd39_88 rfl rfl rfl ?_
            refine zv_getf hB zd39_91 rfl rfl (fun _ _ => ?_)
            refine zv_ist hB zd39_94 rfl rfl rfl ?_
            refine zv_ild hB zd39_95 rfl rfl ?_
            refine zv_zeq hB zd39_96 rfl (fun hc => absurd hc (by decide)) (fun _ => ?_)
            refine zv_ald hB zd39_99 rfl rfl rfl ?_
            refine zv_con hB zd39_100 rfl ?_
            obtain ⟨r45, hr45, h⟩ := zi_bind h
            refine zv_cv hB (zv_emq (va2 := [.inr 0, .inl 0]) (F := [.inl f0, .inl (zi_w (f1 + 1)), .inl f2, .inr 2, .inl f4, .inl f5, .inl f6, .inl f7, .inl f8, .inl f9]) (F' := [.inl r45.1, .inl r45.2.1, .inl f2, .inr 2, .inl f4, .inl r45.2.2.1, .inl f6, .inl f7, .inl f8, .inl f9]) (G := [g0, g1, g2, g3, g4, g5, g6]) (G' := [g0, r45.2.2.2.1, r45.2.2.2.2, g3, g4, g5, g6]) (ρ := [0, 1, 2, 3, 4]) (φ := [0, 1, 2, 3, 5]) (ψ := [0, 1, 2]) [some 0, some 1, some 2, some 3, none, some 4, none, none, none, none] [some 0, some 1, some 2, none, none, none, none] zyw_LawReader_readSum zyw_LawReader_readClause zye_LawReader_readClause (by decide +kernel) (zt_LawReader_readSum hr45) ⟨⟨_, rfl, fun _ => rfl⟩, ⟨_, rfl, fun _ => rfl⟩, ⟨_, rfl, fun _ => rfl⟩, ⟨_, rfl, fun _ => rfl⟩, ⟨_, rfl, fun _ => rfl⟩, trivial⟩ ⟨rfl, rfl, rfl, trivial⟩ rfl rfl rfl rfl rfl rfl rfl) zd39_101 zxt43 rfl (by decide) (by decide) rfl ?_
            refine zv_ald hB zd39_104 rfl rfl rfl ?_
            refine zv_getq hB zd39_105 rfl rfl rfl ?_
            refine zv_getf hB zd39_108 rfl rfl (fun _ _ => ?_)
            refine zv_ist hB zd39_111 rfl rfl rfl ?_
            refine zv_ald hB zd39_113 rfl rfl rfl ?_
            refine zv_con hB zd39_114 rfl ?_
            obtain ⟨r46, hr46, h⟩ := zi_bind h
            refine zv_cv hB (zv_emq (va2 := [.inr 0, .inl 40]) (F := [.inl r45.1, .inl r45.2.1, .inl f2, .inr 2, .inl f4, .inl r45.2.2.1, .inl f6, .inl f7, .inl f8, .inl f9]) (F' := [.inl r46.1, .inl r46.2, .inl f2, .inr 2, .inl f4, .inl r45.2.2.1, .inl f6, .inl f7, .inl f8, .inl f9]) (G := [g0, r45.2.2.2.1, r45.2.2.2.2, g3, g4, g5, g6]) (G' := [g0, r45.2.2.2.1, r45.2.2.2.2, g3, g4, g5, g6]) (ρ := [0, 1]) (φ := [0, 1, 2]) (ψ := [0]) [some 0, some 1, some 2, none, none, none, none, none, none, none] [some 0, none, none, none, none, none, none] zyw_LawReader_skip zyw_LawReader_readClause zye_LawReader_readClause (by decide +kernel) (zt_LawReader_skip hr46) ⟨⟨_, rfl, fun _ => rfl⟩, ⟨_, rfl, fun _ => rfl⟩, ⟨_, rfl, fun _ => rfl⟩, trivial⟩ ⟨rfl, trivial⟩ rfl rfl rfl rfl rfl rfl rfl) zd39_116 zxt46 rfl (by decide) (by decide) rfl ?_
            refine zv_ald hB zd39_119 rfl rfl rfl ?_
            refine zv_con hB zd39_120 rfl ?_
            obtain ⟨r47, hr47, h⟩ := zi_bind h
            refine zv_cv hB (zv_emq (va2 := [.inr 0, .inl 1]) (F := [.inl r46.1, .inl r46.2, .inl f2, .inr 2, .inl f4, .inl r45.2.2.1, .inl f6, .inl f7, .inl f8, .inl f9]) (F' := [.inl r47.1, .inl r47.2.1, .inl f2, .inr 2, .inl f4, .inl r47.2.2.1, .inl f6, .inl f7, .inl f8, .inl f9]) (G := [g0, r45.2.2.2.1, r45.2.2.2.2, g3, g4, g5, g6]) (G' := [g0, r47.2.2.2.1, r47.2.2.2.2, g3, g4, g5, g6]) (ρ := [0, 1, 2, 3, 4]) (φ := [0, 1, 2, 3, 5]) (ψ := [0, 1, 2]) [some 0, some 1, some 2, some 3, none, some 4, none, none, none, none] [some 0, some 1, some 2, none, none, none, none] zyw_LawReader_readCondition zyw_LawReader_readClause zye_LawReader_readClause (by decide +kernel) (zt_LawReader_readCondition hr47) ⟨⟨_, rfl, fun _ => rfl⟩, ⟨_, rfl, fun _ => rfl⟩, ⟨_, rfl, fun _ => rfl⟩, ⟨_, rfl, fun _ => rfl⟩, ⟨_, rfl, fun _ => rfl⟩, trivial⟩ ⟨rfl, rfl, rfl, trivial⟩ rfl rfl rfl rfl rfl rfl rfl) zd39_121 zxt69 rfl (by decide) (by decide) rfl ?_
            refine zv_ald hB zd39_124 rfl rfl rfl ?_
            refine zv_con hB zd39_125 rfl ?_
            obtain ⟨r48, hr48, h⟩ := zi_bind h
            refine zv_cv hB (zv_emq (va2 := [.inr 0, .inl 41]) (F := [.inl r47.1, .inl r47.2.1, .inl f2, .inr 2, .inl f4, .inl r47.2.2.1, .inl f6, .inl f7, .inl f8, .inl f9]) (F' := [.inl r48.1, .inl r48.2, .inl f2, .inr 2, .inl f4, .inl r47.2.2.1, .inl f6, .inl f7, .inl f8, .inl f9]) (G := [g0, r47.2.2.2.1, r47.2.2.2.2, g3, g4, g5, g6]) (G' := [g0, r47.2.2.2.1, r47.2.2.2.2, g3, g4, g5, g6]) (ρ := [0, 1]) (φ := [0, 1, 2]) (ψ := [0]) [some 0, some 1, some 2, none, none, none, none, none, none, none] [some 0, none, none, none, none, none, none] zyw_LawReader_skip zyw_LawReader_readClause zye_LawReader_readClause (by decide +kernel) (zt_LawReader_skip hr48) ⟨⟨_, rfl, fun _ => rfl⟩, ⟨_, rfl, fun _ => rfl⟩, ⟨_, rfl, fun _ => rfl⟩, trivial⟩ ⟨rfl, trivial⟩ rfl rfl rfl rfl rfl rfl rfl) zd39_127 zxt46 rfl (by decide) (by decide) rfl ?_
            refine zv_ald hB zd39_130 rfl rfl rfl ?_
            refine zv_getq hB zd39_131 rfl rfl rfl ?_
            refine zv_ild hB zd39_134 rfl rfl ?_
            refine zv_ild hB zd39_135 rfl rfl ?_
            refine zv_ild hB zd39_136 rfl rfl ?_
            obtain ⟨r49, hr49, h⟩ := zi_bind h
            refine zv_cv hB (zv_emq (va2 := [.inr 2, .inl r2, .inl f5, .inl r45.2.2.1]) (F := [.inl r48.1, .inl r48.2, .inl f2, .inr 2, .inl f4, .inl r47.2.2.1, .inl f6, .inl f7, .inl f8, .inl f9]) (F' := [.inl r48.1, .inl r48.2, .inl f2, .inr 2, .inl r49.1, .inl r47.2.2.1, .inl r49.2.1, .inl r49.2.2.1, .inl r49.2.2.2.1, .inl r49.2.2.2.2.1]) (G := [g0, r47.2.2.2.1, r47.2.2.2.2, g3, g4, g5, g6]) (G' := [g0, r47.2.2.2.1, r47.2.2.2.2, r49.2.2.2.2.2.1, r49.2.2.2.2.2.2.1, r49.2.2.2.2.2.2.2.1, r49.2.2.2.2.2.2.2.2]) (ρ := [2, 5, 6, 7, 8, 3, 4]) (φ := [4, 5, 6, 7, 8, 9]) (ψ := [3, 4, 5, 6, 1, 2]) [none, none, none, none, some 0, some 1, some 2, some 3, some 4, some 5] [none, some 4, some 5, some 0, some 1, some 2, some 3] zyw_Law_addClause zyw_LawReader_readClause zye_LawReader_readClause (by decide +kernel) (zt_Law_addClause hr49) ⟨⟨_, rfl, fun _ => rfl⟩, ⟨_, rfl, fun _ => rfl⟩, ⟨_, rfl, fun _ => rfl⟩, ⟨_, rfl, fun _ => rfl⟩, ⟨_, rfl, fun _ => rfl⟩, ⟨_, rfl, fun _ => rfl⟩, trivial⟩ ⟨rfl, rfl, rfl, rfl, rfl, rfl, trivial⟩ rfl rfl rfl rfl rfl rfl rfl) zd39_138 zxt74 rfl (by decide) (by decide) rfl ?_
            have hw := Option.some.inj h
            subst hw
            exact hvret _ _ _ _ zd39_141 trivial ⟨rfl, rfl, rfl⟩
          · rw [if_pos hc43] at h
            refine zv_ald hB zd39_71 rfl rfl rfl ?_
            refine zv_con hB zd39_72 rfl ?_
            obtain ⟨r50, hr50, h⟩ := zi_bind h
            refine zv_cv hB (zv_emq (va2 := [.inr 0, .inl 4]) (F := [.inl f0, .inl f1, .inl f2, .inr 2, .inl f4, .inl f5, .inl f6, .inl f7, .inl f8, .inl f9]) (F' := [.inl r50, .inl f1, .inl f2, .inr 2, .inl f4, .inl f5, .inl f6, .inl f7, .inl f8, .inl f9]) (G := [g0, g1, g2, g3, g4, g5, g6]) (G' := [g0, g1, g2, g3, g4, g5, g6]) (ρ := [0]) (φ := [0, 1]) (ψ := []) [some 0, some 1, none, none, none, none, none, none, none, none] [none, none, none, none, none, none, none] zyw_LawReader_fail zyw_LawReader_readClause zye_LawReader_readClause (by decide +kernel) (zt_LawReader_fail hr50) ⟨⟨_, rfl, fun _ => rfl⟩, ⟨_, rfl, fun _ => rfl⟩, trivial⟩ trivial rfl rfl rfl rfl rfl rfl rfl) zd39_73 zxt41 rfl (by decide) (by decide) rfl ?_
            have hw := Option.some.inj h
            subst hw
            exact hvret _ _ _ _ zd39_76 trivial ⟨rfl, rfl, rfl⟩
  · rw [if_neg hc1] at h
    have hw := Option.some.inj h
    subst hw
    exact hvret _ _ _ _ zd39_7 trivial ⟨rfl, rfl, rfl⟩
end
