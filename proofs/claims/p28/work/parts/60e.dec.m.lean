/-! 60e.dec, 60f.dec, 60g.dec, 60h.dec, 60i.dec, 60j.dec, 60k.dec -/
section
/-! Methods as functions, and that they do what these do. -/
/-! Law_landJump (I)V -/
-- names: 0 Law('arg', 0), 1 (0, 200)(0, 4, 1)
-- fields: f0 = 0.steps_; arrays: g0 = 1; out: [('g', 0)]
abbrev zy_Law_landJump : zNL := (2, [(0, 4)], [(0, 4, 2, 0)], [(0, 4, 1, 1)], [(1, 0, 200, 0)])
theorem zyw_Law_landJump : zv_wf zy_Law_landJump = true := by decide +kernel
theorem zye_Law_landJump : zv_ek2 zy_Law_landJump = true := by decide +kernel
def zf_Law_landJump (x1 : Int) (f0 : Int) (g0 : (Int → Int)) : Option ((Int → Int)) := if x1 < 0 then (some g0) else (if x1 < 200 then (cond (zi_ix x1 200) (some (zv_up g0 x1 f0)) none) else (some g0))
theorem zd73_0 : decode zxm73.2.1 0 = .ok (.iload_n 1, 1) := by decide +kernel
theorem zd73_1 : decode zxm73.2.1 1 = .ok (.ifCond .lt 20, 3) := by decide +kernel
theorem zd73_4 : decode zxm73.2.1 4 = .ok (.iload_n 1, 1) := by decide +kernel
theorem zd73_5 : decode zxm73.2.1 5 = .ok (.sipush 200, 3) := by decide +kernel
theorem zd73_8 : decode zxm73.2.1 8 = .ok (.if_icmp .ge 13, 3) := by decide +kernel
theorem zd73_11 : decode zxm73.2.1 11 = .ok (.aload_n 0, 1) := by decide +kernel
theorem zd73_12 : decode zxm73.2.1 12 = .ok (.getfield 13, 3) := by decide +kernel
theorem zd73_15 : decode zxm73.2.1 15 = .ok (.iload_n 1, 1) := by decide +kernel
theorem zd73_16 : decode zxm73.2.1 16 = .ok (.aload_n 0, 1) := by decide +kernel
theorem zd73_17 : decode zxm73.2.1 17 = .ok (.getfield 16, 3) := by decide +kernel
theorem zd73_20 : decode zxm73.2.1 20 = .ok (.iastore, 1) := by decide +kernel
theorem zd73_21 : decode zxm73.2.1 21 = .ok (.return_, 1) := by decide +kernel
theorem zt_Law_landJump {x1 : Int} {f0 : Int} {g0 : (Int → Int)} {o : (Int → Int)} (h : zf_Law_landJump x1 f0 g0 = some o) : zv_Fn z_TB z_cl z_KX zy_Law_landJump zxm73 (0, 0) [.inr 0, .inl x1] [.inl f0] [g0] none [.inl f0] [o] := zv_meth (K := (z_KF2, z_KC2, z_KL2, z_KT2, [], [], [], none)) (FT := z_FT) (MT := z_MT) (n := 2) zxp73 (z_ks2 _ (fun _ h => List.mem_cons_of_mem _ h) _ _ _ _ (fun j r h _ => by cases h)) (fun _ _ => zs_KX_p) zyw_Law_landJump (fun va F G h => by obtain ⟨rfl, _⟩ := h; rfl) (fun va F G h => by obtain ⟨rfl, _⟩ := h; rfl) rfl fun good va F G hB hret hvret hP => by
  obtain ⟨rfl, rfl, rfl⟩ := hP
  unfold zf_Law_landJump at h
  refine zv_ild hB zd73_0 rfl rfl ?_
  refine zv_zlt hB zd73_1 rfl (fun hc1 => ?_) (fun hc1 => ?_)
  · rw [if_pos hc1] at h
    have hw := Option.some.inj h
    subst hw
    exact hvret _ _ _ _ zd73_21 trivial ⟨rfl, rfl, rfl⟩
  · rw [if_neg (Int.not_lt.mpr hc1)] at h
    refine zv_ild hB zd73_4 rfl rfl ?_
    refine zv_con hB zd73_5 rfl ?_
    refine zv_cge hB zd73_8 rfl (fun hc2 => ?_) (fun hc2 => ?_)
    · rw [if_neg (Int.not_lt.mpr hc2)] at h
      have hw := Option.some.inj h
      subst hw
      exact hvret _ _ _ _ zd73_21 trivial ⟨rfl, rfl, rfl⟩
    · rw [if_pos hc2] at h
      refine zv_ald hB zd73_11 rfl rfl rfl ?_
      refine zv_getr hB zd73_12 rfl ?_
      refine zv_ild hB zd73_15 rfl rfl ?_
      refine zv_ald hB zd73_16 rfl rfl rfl ?_
      refine zv_getf hB zd73_17 rfl rfl (fun _ _ => ?_)
      obtain ⟨c3, h⟩ := zi_if h
      refine zv_iast hB zd73_20 rfl rfl (zi_ix_ok c3).1 (zi_ix_ok c3).2 ?_
      have hw := Option.some.inj h
      subst hw
      exact hvret _ _ _ _ zd73_21 trivial ⟨rfl, rfl, rfl⟩
/-! LawReader_readComparison (I)V -/
-- names: 0 LawReader('arg', 0), 1 (0, 220)(0, 5, 0), 2 Law(0, 5, 4), 3 (0, 200)(2, 4, 0), 4 (0, 200)(2, 4, 1)
-- fields: f0 = 0.law_, f1 = 0.fault_, f2 = 0.at_, f3 = 0.length_, f4 = 2.steps_; arrays: g0 = 1, g1 = 3, g2 = 4; out: [('f', 1), ('f', 2), ('f', 4), ('g', 1), ('g', 2)]
abbrev zy_LawReader_readComparison : zNL := (5, [(0, 5), (2, 4)], [(0, 5, 4, 0), (0, 5, 3, 1), (0, 5, 2, 2), (0, 5, 1, 3), (2, 4, 2, 4)], [(0, 5, 0, 1), (2, 4, 0, 3), (2, 4, 1, 4)], [(1, 0, 220, 0), (3, 0, 200, 1), (4, 0, 200, 2)])
theorem zyw_LawReader_readComparison : zv_wf zy_LawReader_readComparison = true := by decide +kernel
theorem zye_LawReader_readComparison : zv_ek2 zy_LawReader_readComparison = true := by decide +kernel
def zf_LawReader_readComparison (x1 : Int) (f1 : Int) (f2 : Int) (f3 : Int) (f4 : Int) (g0 : (Int → Int)) (g1 : (Int → Int)) (g2 : (Int → Int)) : Option (Int × Int × Int × (Int → Int) × (Int → Int)) := (zf_LawReader_readSum x1 f1 f2 f3 f4 g0 g1 g2).bind fun r1 => (if r1.1 = 0 then ((zf_LawReader_peek r1.2.1 f3 g0).bind fun r3 => (if r3 = 60 then ((zf_LawReader_readSum x1 r1.1 (zi_w (r1.2.1 + 1)) f3 r1.2.2.1 g0 r1.2.2.2.1 r1.2.2.2.2).bind fun r5 => ((zf_Law_addStep 10 0 r5.2.2.1 r5.2.2.2.1 r5.2.2.2.2).bind fun r7 => (some (r5.1, r5.2.1, r7.2.1, r7.2.2.1, r7.2.2.2)))) else (if r3 = 62 then ((zf_LawReader_readSum x1 r1.1 (zi_w (r1.2.1 + 1)) f3 r1.2.2.1 g0 r1.2.2.2.1 r1.2.2.2.2).bind fun r9 => ((zf_Law_addStep 11 0 r9.2.2.1 r9.2.2.2.1 r9.2.2.2.2).bind fun r12 => (some (r9.1, r9.2.1, r12.2.1, r12.2.2.1, r12.2.2.2)))) else (if r3 = 61 then ((zf_LawReader_readSum x1 r1.1 (zi_w (r1.2.1 + 1)) f3 r1.2.2.1 g0 r1.2.2.2.1 r1.2.2.2.2).bind fun r14 => ((zf_Law_addStep 12 0 r14.2.2.1 r14.2.2.2.1 r14.2.2.2.2).bind fun r17 => (some (r14.1, r14.2.1, r17.2.1, r17.2.2.1, r17.2.2.2)))) else ((zf_LawReader_fail 1 r1.1 r1.2.1).bind fun r18 => (some (r18, r1.2.1, r1.2.2.1, r1.2.2.2.1, r1.2.2.2.2))))))) else (some (r1.1, r1.2.1, r1.2.2.1, r1.2.2.2.1, r1.2.2.2.2)))
theorem zd72_0 : decode zxm72.2.1 0 = .ok (.aload_n 0, 1) := by decide +kernel
theorem zd72_1 : decode zxm72.2.1 1 = .ok (.iload_n 1, 1) := by decide +kernel
theorem zd72_2 : decode zxm72.2.1 2 = .ok (.invokevirtual 63, 3) := by decide +kernel
theorem zd72_5 : decode zxm72.2.1 5 = .ok (.aload_n 0, 1) := by decide +kernel
theorem zd72_6 : decode zxm72.2.1 6 = .ok (.getfield 18, 3) := by decide +kernel
theorem zd72_9 : decode zxm72.2.1 9 = .ok (.ifCond .eq 4, 3) := by decide +kernel
theorem zd72_12 : decode zxm72.2.1 12 = .ok (.return_, 1) := by decide +kernel
theorem zd72_13 : decode zxm72.2.1 13 = .ok (.aload_n 0, 1) := by decide +kernel
theorem zd72_14 : decode zxm72.2.1 14 = .ok (.invokevirtual 53, 3) := by decide +kernel
theorem zd72_17 : decode zxm72.2.1 17 = .ok (.istore_n 2, 1) := by decide +kernel
theorem zd72_18 : decode zxm72.2.1 18 = .ok (.iload_n 2, 1) := by decide +kernel
theorem zd72_19 : decode zxm72.2.1 19 = .ok (.bipush 60, 2) := by decide +kernel
theorem zd72_21 : decode zxm72.2.1 21 = .ok (.if_icmp .eq 21, 3) := by decide +kernel
theorem zd72_24 : decode zxm72.2.1 24 = .ok (.iload_n 2, 1) := by decide +kernel
theorem zd72_25 : decode zxm72.2.1 25 = .ok (.bipush 62, 2) := by decide +kernel
theorem zd72_27 : decode zxm72.2.1 27 = .ok (.if_icmp .eq 15, 3) := by decide +kernel
theorem zd72_30 : decode zxm72.2.1 30 = .ok (.iload_n 2, 1) := by decide +kernel
theorem zd72_31 : decode zxm72.2.1 31 = .ok (.bipush 61, 2) := by decide +kernel
theorem zd72_33 : decode zxm72.2.1 33 = .ok (.if_icmp .eq 9, 3) := by decide +kernel
theorem zd72_36 : decode zxm72.2.1 36 = .ok (.aload_n 0, 1) := by decide +kernel
theorem zd72_37 : decode zxm72.2.1 37 = .ok (.iconst 1, 1) := by decide +kernel
theorem zd72_38 : decode zxm72.2.1 38 = .ok (.invokevirtual 57, 3) := by decide +kernel
theorem zd72_41 : decode zxm72.2.1 41 = .ok (.return_, 1) := by decide +kernel
theorem zd72_42 : decode zxm72.2.1 42 = .ok (.aload_n 0, 1) := by decide +kernel
theorem zd72_43 : decode zxm72.2.1 43 = .ok (.dup, 1) := by decide +kernel
theorem zd72_44 : decode zxm72.2.1 44 = .ok (.getfield 15, 3) := by decide +kernel
theorem zd72_47 : decode zxm72.2.1 47 = .ok (.iconst 1, 1) := by decide +kernel
theorem zd72_48 : decode zxm72.2.1 48 = .ok (.iadd, 1) := by decide +kernel
theorem zd72_49 : decode zxm72.2.1 49 = .ok (.putfield 15, 3) := by decide +kernel
theorem zd72_52 : decode zxm72.2.1 52 = .ok (.aload_n 0, 1) := by decide +kernel
theorem zd72_53 : decode zxm72.2.1 53 = .ok (.iload_n 1, 1) := by decide +kernel
theorem zd72_54 : decode zxm72.2.1 54 = .ok (.invokevirtual 63, 3) := by decide +kernel
theorem zd72_57 : decode zxm72.2.1 57 = .ok (.aload_n 0, 1) := by decide +kernel
theorem zd72_58 : decode zxm72.2.1 58 = .ok (.getfield 25, 3) := by decide +kernel
theorem zd72_61 : decode zxm72.2.1 61 = .ok (.iload_n 2, 1) := by decide +kernel
theorem zd72_62 : decode zxm72.2.1 62 = .ok (.bipush 60, 2) := by decide +kernel
theorem zd72_64 : decode zxm72.2.1 64 = .ok (.if_icmp .ne 8, 3) := by decide +kernel
theorem zd72_67 : decode zxm72.2.1 67 = .ok (.bipush 10, 2) := by decide +kernel
theorem zd72_69 : decode zxm72.2.1 69 = .ok (.goto 16, 3) := by decide +kernel
theorem zd72_72 : decode zxm72.2.1 72 = .ok (.iload_n 2, 1) := by decide +kernel
theorem zd72_73 : decode zxm72.2.1 73 = .ok (.bipush 62, 2) := by decide +kernel
theorem zd72_75 : decode zxm72.2.1 75 = .ok (.if_icmp .ne 8, 3) := by decide +kernel
theorem zd72_78 : decode zxm72.2.1 78 = .ok (.bipush 11, 2) := by decide +kernel
theorem zd72_80 : decode zxm72.2.1 80 = .ok (.goto 5, 3) := by decide +kernel
theorem zd72_83 : decode zxm72.2.1 83 = .ok (.bipush 12, 2) := by decide +kernel
theorem zd72_85 : decode zxm72.2.1 85 = .ok (.iconst 0, 1) := by decide +kernel
theorem zd72_86 : decode zxm72.2.1 86 = .ok (.invokevirtual 76, 3) := by decide +kernel
theorem zd72_89 : decode zxm72.2.1 89 = .ok (.pop, 1) := by decide +kernel
theorem zd72_90 : decode zxm72.2.1 90 = .ok (.return_, 1) := by decide +kernel
theorem zt_LawReader_readComparison {x1 : Int} {f1 : Int} {f2 : Int} {f3 : Int} {f4 : Int} {g0 : (Int → Int)} {g1 : (Int → Int)} {g2 : (Int → Int)} {o : Int × Int × Int × (Int → Int) × (Int → Int)} (h : zf_LawReader_readComparison x1 f1 f2 f3 f4 g0 g1 g2 = some o) : zv_Fn z_TB z_cl z_KX zy_LawReader_readComparison zxm72 (37, 2220) [.inr 0, .inl x1] [.inr 2, .inl f1, .inl f2, .inl f3, .inl f4] [g0, g1, g2] none [.inr 2, .inl o.1, .inl o.2.1, .inl f3, .inl o.2.2.1] [g0, o.2.2.2.1, o.2.2.2.2] := zv_meth (K := (z_KF3, z_KC3, z_KL3, z_KT3, [], [], [], none)) (FT := z_FT) (MT := z_MT) (n := 2) zxp72 (z_ks3 _ (fun _ h => List.mem_cons_of_mem _ h) _ _ _ _ (fun j r h _ => by cases h)) (fun _ _ => zs_KX_p) zyw_LawReader_readComparison (fun va F G h => by obtain ⟨rfl, _⟩ := h; rfl) (fun va F G h => by obtain ⟨rfl, _⟩ := h; rfl) rfl fun good va F G hB hret hvret hP => by
  obtain ⟨rfl, rfl, rfl⟩ := hP
  unfold zf_LawReader_readComparison at h
  refine zv_ald hB zd72_0 rfl rfl rfl ?_
  refine zv_ild hB zd72_1 rfl rfl ?_
  obtain ⟨r1, hr1, h⟩ := zi_bind h
  refine zv_cv hB (zv_emq (va2 := [.inr 0, .inl x1]) (F := [.inr 2, .inl f1, .inl f2, .inl f3, .inl f4]) (F' := [.inr 2, .inl r1.1, .inl r1.2.1, .inl f3, .inl r1.2.2.1]) (G := [g0, g1, g2]) (G' := [g0, r1.2.2.2.1, r1.2.2.2.2]) (ρ := [0, 1, 2, 3, 4]) (φ := [1, 2, 3, 0, 4]) (ψ := [0, 1, 2]) [some 3, some 0, some 1, some 2, some 4] [some 0, some 1, some 2] zyw_LawReader_readSum zyw_LawReader_readComparison zye_LawReader_readComparison (by decide +kernel) (zt_LawReader_readSum hr1) ⟨⟨_, rfl, fun _ => rfl⟩, ⟨_, rfl, fun _ => rfl⟩, ⟨_, rfl, fun _ => rfl⟩, ⟨_, rfl, fun _ => rfl⟩, ⟨_, rfl, fun _ => rfl⟩, trivial⟩ ⟨rfl, rfl, rfl, trivial⟩ rfl rfl rfl rfl rfl rfl rfl) zd72_2 zxt43 rfl (by decide) (by decide) rfl ?_
  refine zv_ald hB zd72_5 rfl rfl rfl ?_
  refine zv_getf hB zd72_6 rfl rfl (fun _ _ => ?_)
  refine zv_zeq hB zd72_9 rfl (fun hc2 => ?_) (fun hc2 => ?_)
  · rw [if_pos hc2] at h
    refine zv_ald hB zd72_13 rfl rfl rfl ?_
    obtain ⟨r3, hr3, h⟩ := zi_bind h
    refine zv_cv hB (zv_emq (va2 := [.inr 0]) (F := [.inr 2, .inl r1.1, .inl r1.2.1, .inl f3, .inl r1.2.2.1]) (F' := [.inr 2, .inl r1.1, .inl r1.2.1, .inl f3, .inl r1.2.2.1]) (G := [g0, r1.2.2.2.1, r1.2.2.2.2]) (G' := [g0, r1.2.2.2.1, r1.2.2.2.2]) (ρ := [0, 1]) (φ := [2, 3]) (ψ := [0]) [none, none, some 0, some 1, none] [some 0, none, none] zyw_LawReader_peek zyw_LawReader_readComparison zye_LawReader_readComparison (by decide +kernel) (zt_LawReader_peek hr3) ⟨⟨_, rfl, fun _ => rfl⟩, ⟨_, rfl, fun _ => rfl⟩, trivial⟩ ⟨rfl, trivial⟩ rfl rfl rfl rfl rfl rfl rfl) zd72_14 zxt40 rfl (by decide) (by decide) rfl ?_
    refine zv_ist hB zd72_17 rfl rfl rfl ?_
    refine zv_ild hB zd72_18 rfl rfl ?_
    refine zv_con hB zd72_19 rfl ?_
    refine zv_ceq hB zd72_21 rfl (fun hc4 => ?_) (fun hc4 => ?_)
    · rw [if_pos hc4] at h
      refine zv_ald hB zd72_42 rfl rfl rfl ?_
      refine zv_dup hB zd72_43 rfl ?_
      refine zv_getf hB zd72_44 rfl rfl (fun _ _ => ?_)
      refine zv_con hB zd72_47 rfl ?_
      refine zv_addw hB zd72_48 ?_
      refine zv_putf hB zd72_49 rfl rfl (fun h => by cases h) rfl ?_
      refine zv_ald hB zd72_52 rfl rfl rfl ?_
      refine zv_ild hB zd72_53 rfl rfl ?_
      obtain ⟨r5, hr5, h⟩ := zi_bind h
      refine zv_cv hB (zv_emq (va2 := [.inr 0, .inl x1]) (F := [.inr 2, .inl r1.1, .inl (zi_w (r1.2.1 + 1)), .inl f3, .inl r1.2.2.1]) (F' := [.inr 2, .inl r5.1, .inl r5.2.1, .inl f3, .inl r5.2.2.1]) (G := [g0, r1.2.2.2.1, r1.2.2.2.2]) (G' := [g0, r5.2.2.2.1, r5.2.2.2.2]) (ρ := [0, 1, 2, 3, 4]) (φ := [1, 2, 3, 0, 4]) (ψ := [0, 1, 2]) [some 3, some 0, some 1, some 2, some 4] [some 0, some 1, some 2] zyw_LawReader_readSum zyw_LawReader_readComparison zye_LawReader_readComparison (by decide +kernel) (zt_LawReader_readSum hr5) ⟨⟨_, rfl, fun _ => rfl⟩, ⟨_, rfl, fun _ => rfl⟩, ⟨_, rfl, fun _ => rfl⟩, ⟨_, rfl, fun _ => rfl⟩, ⟨_, rfl, fun _ => rfl⟩, trivial⟩ ⟨rfl, rfl, rfl, trivial⟩ rfl rfl rfl rfl rfl rfl rfl) zd72_54 zxt43 rfl (by decide) (by decide) rfl ?_
      refine zv_ald hB zd72_57 rfl rfl rfl ?_
      refine zv_getq hB zd72_58 rfl rfl rfl ?_
      refine zv_ild hB zd72_61 rfl rfl ?_
      refine zv_con hB zd72_62 rfl ?_
      refine zv_cne hB zd72_64 rfl (fun hc => absurd hc (by omega)) (fun _ => ?_)
      refine zv_con hB zd72_67 rfl ?_
      refine zv_goto hB zd72_69 rfl ?_
      refine zv_con hB zd72_85 rfl ?_
      obtain ⟨r7, hr7, h⟩ := zi_bind h
      refine zv_cv hB (zv_emq (va2 := [.inr 2, .inl 10, .inl 0]) (F := [.inr 2, .inl r5.1, .inl r5.2.1, .inl f3, .inl r5.2.2.1]) (F' := [.inr 2, .inl r5.1, .inl r5.2.1, .inl f3, .inl r7.2.1]) (G := [g0, r5.2.2.2.1, r5.2.2.2.2]) (G' := [g0, r7.2.2.1, r7.2.2.2]) (ρ := [2, 3, 4]) (φ := [4]) (ψ := [1, 2]) [none, none, none, none, some 0] [none, some 0, some 1] zyw_Law_addStep zyw_LawReader_readComparison zye_LawReader_readComparison (by decide +kernel) (zt_Law_addStep hr7) ⟨⟨_, rfl, fun _ => rfl⟩, trivial⟩ ⟨rfl, rfl, trivial⟩ rfl rfl rfl rfl rfl rfl rfl) zd72_86 zxt49 rfl (by decide) (by decide) rfl ?_
      refine zv_pop hB zd72_89 rfl ?_
      have hw := Option.some.inj h
      subst hw
      exact hvret _ _ _ _ zd72_90 trivial ⟨rfl, rfl, rfl⟩
    · rw [if_neg hc4] at h
      refine zv_ild hB zd72_24 rfl rfl ?_
      refine zv_con hB zd72_25 rfl ?_
      refine zv_ceq hB zd72_27 rfl (fun hc8 => ?_) (fun hc8 => ?_)
      · rw [if_pos hc8] at h
        refine zv_ald hB zd72_42 rfl rfl rfl ?_
        refine zv_dup hB zd72_43 rfl ?_
        refine zv_getf hB zd72_44 rfl rfl (fun _ _ => ?_)
        refine zv_con hB zd72_47 rfl ?_
        refine zv_addw hB zd72_48 ?_
        refine zv_putf hB zd72_49 rfl rfl (fun h => by cases h) rfl ?_
        refine zv_ald hB zd72_52 rfl rfl rfl ?_
        refine zv_ild hB zd72_53 rfl rfl ?_
        obtain ⟨r9, hr9, h⟩ := zi_bind h
        refine zv_cv hB (zv_emq (va2 := [.inr 0, .inl x1]) (F := [.inr 2, .inl r1.1, .inl (zi_w (r1.2.1 + 1)), .inl f3, .inl r1.2.2.1]) (F' := [.inr 2, .inl r9.1, .inl r9.2.1, .inl f3, .inl r9.2.2.1]) (G := [g0, r1.2.2.2.1, r1.2.2.2.2]) (G' := [g0, r9.2.2.2.1, r9.2.2.2.2]) (ρ := [0, 1, 2, 3, 4]) (φ := [1, 2, 3, 0, 4]) (ψ := [0, 1, 2]) [some 3, some 0, some 1, some 2, some 4] [some 0, some 1, some 2] zyw_LawReader_readSum zyw_LawReader_readComparison zye_LawReader_readComparison (by decide +kernel) (zt_LawReader_readSum hr9) ⟨⟨_, rfl, fun _ => rfl⟩, ⟨_, rfl, fun _ => rfl⟩, ⟨_, rfl, fun _ => rfl⟩, ⟨_, rfl, fun _ => rfl⟩, ⟨_, rfl, fun _ => rfl⟩, trivial⟩ ⟨rfl, rfl, rfl, trivial⟩ rfl rfl rfl rfl rfl rfl rfl) zd72_54 zxt43 rfl (by decide) (by decide) rfl ?_
        refine zv_ald hB zd72_57 rfl rfl rfl ?_
        refine zv_getq hB zd72_58 rfl rfl rfl ?_
        refine zv_ild hB zd72_61 rfl rfl ?_
        refine zv_con hB zd72_62 rfl ?_
        refine zv_cne hB zd72_64 rfl (fun _ => ?_) (fun hc => absurd hc (by omega))
        refine zv_ild hB zd72_72 rfl rfl ?_
        refine zv_con hB zd72_73 rfl ?_
        refine zv_cne hB zd72_75 rfl (fun hc => absurd hc (by omega)) (fun _ => ?_)
        refine zv_con hB zd72_78 rfl ?_
        refine zv_goto hB zd72_80 rfl ?_
        refine zv_con hB zd72_85 rfl ?_
        obtain ⟨r12, hr12, h⟩ := zi_bind h
        refine zv_cv hB (zv_emq (va2 := [.inr 2, .inl 11, .inl 0]) (F := [.inr 2, .inl r9.1, .inl r9.2.1, .inl f3, .inl r9.2.2.1]) (F' := [.inr 2, .inl r9.1, .inl r9.2.1, .inl f3, .inl r12.2.1]) (G := [g0, r9.2.2.2.1, r9.2.2.2.2]) (G' := [g0, r12.2.2.1, r12.2.2.2]) (ρ := [2, 3, 4]) (φ := [4]) (ψ := [1, 2]) [none, none, none, none, some 0] [none, some 0, some 1] zyw_Law_addStep zyw_LawReader_readComparison zye_LawReader_readComparison (by decide +kernel) (zt_Law_addStep hr12) ⟨⟨_, rfl, fun _ => rfl⟩, trivial⟩ ⟨rfl, rfl, trivial⟩ rfl rfl rfl rfl rfl rfl rfl) zd72_86 zxt49 rfl (by decide) (by decide) rfl ?_
        refine zv_pop hB zd72_89 rfl ?_
        have hw := Option.some.inj h
        subst hw
        exact hvret _ _ _ _ zd72_90 trivial ⟨rfl, rfl, rfl⟩
      · rw [if_neg hc8] at h
        refine zv_ild hB zd72_30 rfl rfl ?_
        refine zv_con hB zd72_31 rfl ?_
        refine zv_ceq hB zd72_33 rfl (fun hc13 => ?_) (fun hc13 => ?_)
        · rw [if_pos hc13] at h
          refine zv_ald hB zd72_42 rfl rfl rfl ?_
          refine zv_dup hB zd72_43 rfl ?_
          refine zv_getf hB zd72_44 rfl rfl (fun _ _ => ?_)
          refine zv_con hB zd72_47 rfl ?_
          refine zv_addw hB zd72_48 ?_
          refine zv_putf hB zd72_49 rfl rfl (fun h => by cases h) rfl ?_
          refine zv_ald hB zd72_52 rfl rfl rfl ?_
          refine zv_ild hB zd72_53 rfl rfl ?_
          obtain ⟨r14, hr14, h⟩ := zi_bind h
          refine zv_cv hB (zv_emq (va2 := [.inr 0, .inl x1]) (F := [.inr 2, .inl r1.1, .inl (zi_w (r1.2.1 + 1)), .inl f3, .inl r1.2.2.1]) (F' := [.inr 2, .inl r14.1, .inl r14.2.1, .inl f3, .inl r14.2.2.1]) (G := [g0, r1.2.2.2.1, r1.2.2.2.2]) (G' := [g0, r14.2.2.2.1, r14.2.2.2.2]) (ρ := [0, 1, 2, 3, 4]) (φ := [1, 2, 3, 0, 4]) (ψ := [0, 1, 2]) [some 3, some 0, some 1, some 2, some 4] [some 0, some 1, some 2] zyw_LawReader_readSum zyw_LawReader_readComparison zye_LawReader_readComparison (by decide +kernel) (zt_LawReader_readSum hr14) ⟨⟨_, rfl, fun _ => rfl⟩, ⟨_, rfl, fun _ => rfl⟩, ⟨_, rfl, fun _ => rfl⟩, ⟨_, rfl, fun _ => rfl⟩, ⟨_, rfl, fun _ => rfl⟩, trivial⟩ ⟨rfl, rfl, rfl, trivial⟩ rfl rfl rfl rfl rfl rfl rfl) zd72_54 zxt43 rfl (by decide) (by decide) rfl ?_
          refine zv_ald hB zd72_57 rfl rfl rfl ?_
          refine zv_getq hB zd72_58 rfl rfl rfl ?_
          refine zv_ild hB zd72_61 rfl rfl ?_
          refine zv_con hB zd72_62 rfl ?_
          refine zv_cne hB zd72_64 rfl (fun _ => ?_) (fun hc => absurd hc (by omega))
          refine zv_ild hB zd72_72 rfl rfl ?_
          refine zv_con hB zd72_73 rfl ?_
          refine zv_cne hB zd72_75 rfl (fun _ => ?_) (fun hc => absurd hc (by omega))
          refine zv_con hB zd72_83 rfl ?_
          refine zv_con hB zd72_85 rfl ?_
          obtain ⟨r17, hr17, h⟩ := zi_bind h
          refine zv_cv hB (zv_emq (va2 := [.inr 2, .inl 12, .inl 0]) (F := [.inr 2, .inl r14.1, .inl r14.2.1, .inl f3, .inl r14.2.2.1]) (F' := [.inr 2, .inl r14.1, .inl r14.2.1, .inl f3, .inl r17.2.1]) (G := [g0, r14.2.2.2.1, r14.2.2.2.2]) (G' := [g0, r17.2.2.1, r17.2.2.2]) (ρ := [2, 3, 4]) (φ := [4]) (ψ := [1, 2]) [none, none, none, none, some 0] [none, some 0, some 1] zyw_Law_addStep zyw_LawReader_readComparison zye_LawReader_readComparison (by decide +kernel) (zt_Law_addStep hr17) ⟨⟨_, rfl, fun _ => rfl⟩, trivial⟩ ⟨rfl, rfl, trivial⟩ rfl rfl rfl rfl rfl rfl rfl) zd72_86 zxt49 rfl (by decide) (by decide) rfl ?_
          refine zv_pop hB zd72_89 rfl ?_
          have hw := Option.some.inj h
          subst hw
          exact hvret _ _ _ _ zd72_90 trivial ⟨rfl, rfl, rfl⟩
        · rw [if_neg hc13] at h
          refine zv_ald hB zd72_36 rfl rfl rfl ?_
          refine zv_con hB zd72_37 rfl ?_
          obtain ⟨r18, hr18, h⟩ := zi_bind h
          refine zv_cv hB (zv_emq (va2 := [.inr 0, .inl 1]) (F := [.inr 2, .inl r1.1, .inl r1.2.1, .inl f3, .inl r1.2.2.1]) (F' := [.inr 2, .inl r18, .inl r1.2.1, .inl f3, .inl r1.2.2.1]) (G := [g0, r1.2.2.2.1, r1.2.2.2.2]) (G' := [g0, r1.2.2.2.1, r1.2.2.2.2]) (ρ := [0]) (φ := [1, 2]) (ψ := []) [none, some 0, some 1, none, none] [none, none, none] zyw_LawReader_fail zyw_LawReader_readComparison zye_LawReader_readComparison (by decide +kernel) (zt_LawReader_fail hr18) ⟨⟨_, rfl, fun _ => rfl⟩, ⟨_, rfl, fun _ => rfl⟩, trivial⟩ trivial rfl rfl rfl rfl rfl rfl rfl) zd72_38 zxt41 rfl (by decide) (by decide) rfl ?_
          have hw := Option.some.inj h
          subst hw
          exact hvret _ _ _ _ zd72_41 trivial ⟨rfl, rfl, rfl⟩
  · rw [if_neg hc2] at h
    have hw := Option.some.inj h
    subst hw
    exact hvret _ _ _ _ zd72_12 trivial ⟨rfl, rfl, rfl⟩
end
section
/-! Methods as functions, and that they do what these do. -/
/-! LawReader_readCondition (I)V -/
-- names: 0 LawReader('arg', 0), 1 (0, 220)(0, 5, 0), 2 Law(0, 5, 4), 3 (0, 200)(2, 4, 0), 4 (0, 200)(2, 4, 1)
-- fields: f0 = 0.fault_, f1 = 0.at_, f2 = 0.length_, f3 = 0.law_, f4 = 2.steps_; arrays: g0 = 1, g1 = 3, g2 = 4; out: [('f', 0), ('f', 1), ('f', 4), ('g', 1), ('g', 2)]
abbrev zy_LawReader_readCondition : zNL := (5, [(0, 5), (2, 4)], [(0, 5, 3, 0), (0, 5, 2, 1), (0, 5, 1, 2), (0, 5, 4, 3), (2, 4, 2, 4)], [(0, 5, 0, 1), (2, 4, 0, 3), (2, 4, 1, 4)], [(1, 0, 220, 0), (3, 0, 200, 1), (4, 0, 200, 2)])
theorem zyw_LawReader_readCondition : zv_wf zy_LawReader_readCondition = true := by decide +kernel
theorem zye_LawReader_readCondition : zv_ek2 zy_LawReader_readCondition = true := by decide +kernel
def zm_LawReader_readCondition_l0_b (rc : Nat → Int → Int → Int → Int → Int → (Int → Int) → (Int → Int) → (Int → Int) → Option (Int × Int × Int × (Int → Int) × (Int → Int))) (x1 : Int) (f2 : Int) (g0 : (Int → Int)) (rec : Int → Int → Int → (Int → Int) → (Int → Int) → Option (Int × Int × Int × (Int → Int) × (Int → Int))) (f0 : Int) (f1 : Int) (f4 : Int) (g1 : (Int → Int)) (g2 : (Int → Int)) : Option (Int × Int × Int × (Int → Int) × (Int → Int)) := if f0 = 0 then (if f1 < f2 then (cond (zi_ix f1 220) (if (g0 f1) = 124 then ((zf_Law_addStep 3 0 f4 g1 g2).bind fun r6 => ((rc 1 x1 f0 (zi_w (f1 + 1)) f2 r6.2.1 g0 r6.2.2.1 r6.2.2.2).bind fun r7 => ((zf_Law_landJump r6.1 r7.2.2.1 r7.2.2.2.2).bind fun r8 => (rec r7.1 r7.2.1 r7.2.2.1 r7.2.2.2.1 r8)))) else (some (f0, f1, f4, g1, g2))) none) else (some (f0, f1, f4, g1, g2))) else (some (f0, f1, f4, g1, g2))
def zm_LawReader_readCondition_l0 (rc : Nat → Int → Int → Int → Int → Int → (Int → Int) → (Int → Int) → (Int → Int) → Option (Int × Int × Int × (Int → Int) × (Int → Int))) (x1 : Int) (f2 : Int) (g0 : (Int → Int)) : Nat → Int → Int → Int → (Int → Int) → (Int → Int) → Option (Int × Int × Int × (Int → Int) × (Int → Int))
  | 0, _, _, _, _, _ => none
  | n + 1, f0, f1, f4, g1, g2 => zm_LawReader_readCondition_l0_b rc x1 f2 g0 (zm_LawReader_readCondition_l0 rc x1 f2 g0 n) f0 f1 f4 g1 g2
def zm_LawReader_readCondition (rc : Nat → Int → Int → Int → Int → Int → (Int → Int) → (Int → Int) → (Int → Int) → Option (Int × Int × Int × (Int → Int) × (Int → Int))) (x1 : Int) (f0 : Int) (f1 : Int) (f2 : Int) (f4 : Int) (g0 : (Int → Int)) (g1 : (Int → Int)) (g2 : (Int → Int)) : Option (Int × Int × Int × (Int → Int) × (Int → Int)) := (rc 1 x1 f0 f1 f2 f4 g0 g1 g2).bind fun r1 => ((zm_LawReader_readCondition_l0 rc x1 f2 g0 zi_fu r1.1 r1.2.1 r1.2.2.1 r1.2.2.2.1 r1.2.2.2.2).bind fun q9 => (some (q9.1, q9.2.1, q9.2.2.1, q9.2.2.2.1, q9.2.2.2.2)))
theorem zd69_0 : decode zxm69.2.1 0 = .ok (.aload_n 0, 1) := by decide +kernel
theorem zd69_1 : decode zxm69.2.1 1 = .ok (.iload_n 1, 1) := by decide +kernel
theorem zd69_2 : decode zxm69.2.1 2 = .ok (.invokevirtual 73, 3) := by decide +kernel
theorem zd69_5 : decode zxm69.2.1 5 = .ok (.aload_n 0, 1) := by decide +kernel
theorem zd69_6 : decode zxm69.2.1 6 = .ok (.getfield 18, 3) := by decide +kernel
theorem zd69_9 : decode zxm69.2.1 9 = .ok (.ifCond .ne 64, 3) := by decide +kernel
theorem zd69_12 : decode zxm69.2.1 12 = .ok (.aload_n 0, 1) := by decide +kernel
theorem zd69_13 : decode zxm69.2.1 13 = .ok (.getfield 15, 3) := by decide +kernel
theorem zd69_16 : decode zxm69.2.1 16 = .ok (.aload_n 0, 1) := by decide +kernel
theorem zd69_17 : decode zxm69.2.1 17 = .ok (.getfield 9, 3) := by decide +kernel
theorem zd69_20 : decode zxm69.2.1 20 = .ok (.if_icmp .ge 53, 3) := by decide +kernel
theorem zd69_23 : decode zxm69.2.1 23 = .ok (.aload_n 0, 1) := by decide +kernel
theorem zd69_24 : decode zxm69.2.1 24 = .ok (.getfield 21, 3) := by decide +kernel
theorem zd69_27 : decode zxm69.2.1 27 = .ok (.aload_n 0, 1) := by decide +kernel
theorem zd69_28 : decode zxm69.2.1 28 = .ok (.getfield 15, 3) := by decide +kernel
theorem zd69_31 : decode zxm69.2.1 31 = .ok (.iaload, 1) := by decide +kernel
theorem zd69_32 : decode zxm69.2.1 32 = .ok (.bipush 124, 2) := by decide +kernel
theorem zd69_34 : decode zxm69.2.1 34 = .ok (.if_icmp .ne 39, 3) := by decide +kernel
theorem zd69_37 : decode zxm69.2.1 37 = .ok (.aload_n 0, 1) := by decide +kernel
theorem zd69_38 : decode zxm69.2.1 38 = .ok (.dup, 1) := by decide +kernel
theorem zd69_39 : decode zxm69.2.1 39 = .ok (.getfield 15, 3) := by decide +kernel
theorem zd69_42 : decode zxm69.2.1 42 = .ok (.iconst 1, 1) := by decide +kernel
theorem zd69_43 : decode zxm69.2.1 43 = .ok (.iadd, 1) := by decide +kernel
theorem zd69_44 : decode zxm69.2.1 44 = .ok (.putfield 15, 3) := by decide +kernel
theorem zd69_47 : decode zxm69.2.1 47 = .ok (.aload_n 0, 1) := by decide +kernel
theorem zd69_48 : decode zxm69.2.1 48 = .ok (.getfield 25, 3) := by decide +kernel
theorem zd69_51 : decode zxm69.2.1 51 = .ok (.iconst 3, 1) := by decide +kernel
theorem zd69_52 : decode zxm69.2.1 52 = .ok (.iconst 0, 1) := by decide +kernel
theorem zd69_53 : decode zxm69.2.1 53 = .ok (.invokevirtual 76, 3) := by decide +kernel
theorem zd69_56 : decode zxm69.2.1 56 = .ok (.istore_n 2, 1) := by decide +kernel
theorem zd69_57 : decode zxm69.2.1 57 = .ok (.aload_n 0, 1) := by decide +kernel
theorem zd69_58 : decode zxm69.2.1 58 = .ok (.iload_n 1, 1) := by decide +kernel
theorem zd69_59 : decode zxm69.2.1 59 = .ok (.invokevirtual 73, 3) := by decide +kernel
theorem zd69_62 : decode zxm69.2.1 62 = .ok (.aload_n 0, 1) := by decide +kernel
theorem zd69_63 : decode zxm69.2.1 63 = .ok (.getfield 25, 3) := by decide +kernel
theorem zd69_66 : decode zxm69.2.1 66 = .ok (.iload_n 2, 1) := by decide +kernel
theorem zd69_67 : decode zxm69.2.1 67 = .ok (.invokevirtual 79, 3) := by decide +kernel
theorem zd69_70 : decode zxm69.2.1 70 = .ok (.goto (-65), 3) := by decide +kernel
theorem zd69_73 : decode zxm69.2.1 73 = .ok (.return_, 1) := by decide +kernel
theorem zts_LawReader_readCondition {dp : Nat} {rc : Nat → Int → Int → Int → Int → Int → (Int → Int) → (Int → Int) → (Int → Int) → Option (Int × Int × Int × (Int → Int) × (Int → Int))} (ih0 : ∀ (x1 : Int) (f0 : Int) (f1 : Int) (f2 : Int) (f4 : Int) (g0 : (Int → Int)) (g1 : (Int → Int)) (g2 : (Int → Int)) (o : Int × Int × Int × (Int → Int) × (Int → Int)), rc 0 x1 f0 f1 f2 f4 g0 g1 g2 = some o → zv_Fn z_TB z_cl z_KX zy_LawReader_readCondition zxm69 (38 + dp, 60 * (38 + dp)) [.inr 0, .inl x1] [.inl f0, .inl f1, .inl f2, .inr 2, .inl f4] [g0, g1, g2] none [.inl o.1, .inl o.2.1, .inl f2, .inr 2, .inl o.2.2.1] [g0, o.2.2.2.1, o.2.2.2.2]) (ih1 : ∀ (x1 : Int) (f0 : Int) (f1 : Int) (f2 : Int) (f4 : Int) (g0 : (Int → Int)) (g1 : (Int → Int)) (g2 : (Int → Int)) (o : Int × Int × Int × (Int → Int) × (Int → Int)), rc 1 x1 f0 f1 f2 f4 g0 g1 g2 = some o → zv_Fn z_TB z_cl z_KX zy_LawReader_readCondition zxm70 (38 + dp, 60 * (38 + dp)) [.inr 0, .inl x1] [.inl f0, .inl f1, .inl f2, .inr 2, .inl f4] [g0, g1, g2] none [.inl o.1, .inl o.2.1, .inl f2, .inr 2, .inl o.2.2.1] [g0, o.2.2.2.1, o.2.2.2.2]) (ih2 : ∀ (x1 : Int) (f0 : Int) (f1 : Int) (f2 : Int) (f4 : Int) (g0 : (Int → Int)) (g1 : (Int → Int)) (g2 : (Int → Int)) (o : Int × Int × Int × (Int → Int) × (Int → Int)), rc 2 x1 f0 f1 f2 f4 g0 g1 g2 = some o → zv_Fn z_TB z_cl z_KX zy_LawReader_readCondition zxm71 (38 + dp, 60 * (38 + dp)) [.inr 0, .inl x1] [.inl f0, .inl f1, .inl f2, .inr 2, .inl f4] [g0, g1, g2] none [.inl o.1, .inl o.2.1, .inl f2, .inr 2, .inl o.2.2.1] [g0, o.2.2.2.1, o.2.2.2.2]) {x1 : Int} {f0 : Int} {f1 : Int} {f2 : Int} {f4 : Int} {g0 : (Int → Int)} {g1 : (Int → Int)} {g2 : (Int → Int)} {o : Int × Int × Int × (Int → Int) × (Int → Int)} (h : zm_LawReader_readCondition rc x1 f0 f1 f2 f4 g0 g1 g2 = some o) : zv_Fn z_TB z_cl z_KX zy_LawReader_readCondition zxm69 (38 + (dp + 1), 60 * (38 + (dp + 1))) [.inr 0, .inl x1] [.inl f0, .inl f1, .inl f2, .inr 2, .inl f4] [g0, g1, g2] none [.inl o.1, .inl o.2.1, .inl f2, .inr 2, .inl o.2.2.1] [g0, o.2.2.2.1, o.2.2.2.2] := zv_meth (K := (z_KF3, z_KC3, z_KL3, z_KT3, [], [], [], none)) (FT := z_FT) (MT := z_MT) (n := 2) zxp69 (z_ks3 _ (fun _ h => List.mem_cons_of_mem _ h) _ _ _ _ (fun j r h _ => by cases h)) (fun _ _ => zs_KX_p) zyw_LawReader_readCondition (fun va F G h => by obtain ⟨rfl, _⟩ := h; rfl) (fun va F G h => by obtain ⟨rfl, _⟩ := h; rfl) rfl fun good va F G hB hret hvret hP => by
  obtain ⟨rfl, rfl, rfl⟩ := hP
  have l0 : ∀ (n : Nat) (x1 : Int) (f0 : Int) (f1 : Int) (f4 : Int) (g1 : (Int → Int)) (g2 : (Int → Int)) (q : Int × Int × Int × (Int → Int) × (Int → Int)), zm_LawReader_readCondition_l0 rc x1 f2 g0 n f0 f1 f4 g1 g2 = some q → (good 73 [.inr 1000, .inr 1000, .inr 1000] [] [.inl q.1, .inl q.2.1, .inl f2, .inr 2, .inl q.2.2.1] [g0, q.2.2.2.1, q.2.2.2.2]) → good 5 [.inr 0, .inl x1, .inr 1000] [] [.inl f0, .inl f1, .inl f2, .inr 2, .inl f4] [g0, g1, g2] := by
    intro n
    induction n with
    | zero => intro x1 f0 f1 f4 g1 g2 q h; exact absurd (show none = some q from h) (fun h => by cases h)
    | succ n ih =>
      intro x1 f0 f1 f4 g1 g2 q h hK
      replace h : zm_LawReader_readCondition_l0_b rc x1 f2 g0 (zm_LawReader_readCondition_l0 rc x1 f2 g0 n) f0 f1 f4 g1 g2 = some q := h
      unfold zm_LawReader_readCondition_l0_b at h
      refine zv_ald hB zd69_5 rfl rfl rfl ?_
      refine zv_getf hB zd69_6 rfl rfl (fun _ _ => ?_)
      refine zv_zne hB zd69_9 rfl (fun hc2 => ?_) (fun hc2 => ?_)
      · rw [if_neg hc2] at h
        have hq := Option.some.inj h
        subst hq
        refine zv_wk hB (L' := [.inr 1000, .inr 1000, .inr 1000]) (F' := [.inl f0, .inl f1, .inl f2, .inr 2, .inl f4]) ⟨fun (h : zv_is (.inr 1000)) => (Nat.lt_irrefl 1000 h).elim, fun (h : zv_is (.inr 1000)) => (Nat.lt_irrefl 1000 h).elim, fun (h : zv_is (.inr 1000)) => (Nat.lt_irrefl 1000 h).elim, trivial⟩ ⟨fun _ => rfl, fun _ => rfl, fun _ => rfl, fun _ => rfl, fun _ => rfl, trivial⟩ ?_
        exact hK
      · rw [if_pos hc2] at h
        refine zv_ald hB zd69_12 rfl rfl rfl ?_
        refine zv_getf hB zd69_13 rfl rfl (fun _ _ => ?_)
        refine zv_ald hB zd69_16 rfl rfl rfl ?_
        refine zv_getf hB zd69_17 rfl rfl (fun _ _ => ?_)
        refine zv_cge hB zd69_20 rfl (fun hc3 => ?_) (fun hc3 => ?_)
        · rw [if_neg (Int.not_lt.mpr hc3)] at h
          have hq := Option.some.inj h
          subst hq
          refine zv_wk hB (L' := [.inr 1000, .inr 1000, .inr 1000]) (F' := [.inl f0, .inl f1, .inl f2, .inr 2, .inl f4]) ⟨fun (h : zv_is (.inr 1000)) => (Nat.lt_irrefl 1000 h).elim, fun (h : zv_is (.inr 1000)) => (Nat.lt_irrefl 1000 h).elim, fun (h : zv_is (.inr 1000)) => (Nat.lt_irrefl 1000 h).elim, trivial⟩ ⟨fun _ => rfl, fun _ => rfl, fun _ => rfl, fun _ => rfl, fun _ => rfl, trivial⟩ ?_
          exact hK
        · rw [if_pos hc3] at h
          refine zv_ald hB zd69_23 rfl rfl rfl ?_
          refine zv_getr hB zd69_24 rfl ?_
          refine zv_ald hB zd69_27 rfl rfl rfl ?_
          refine zv_getf hB zd69_28 rfl rfl (fun _ _ => ?_)
          obtain ⟨c4, h⟩ := zi_if h
          refine zv_iald hB zd69_31 rfl rfl (zi_ix_ok c4).1 (zi_ix_ok c4).2 (fun _ _ => ?_)
          refine zv_con hB zd69_32 rfl ?_
          refine zv_cne hB zd69_34 rfl (fun hc5 => ?_) (fun hc5 => ?_)
          · rw [if_neg hc5] at h
            have hq := Option.some.inj h
            subst hq
            refine zv_wk hB (L' := [.inr 1000, .inr 1000, .inr 1000]) (F' := [.inl f0, .inl f1, .inl f2, .inr 2, .inl f4]) ⟨fun (h : zv_is (.inr 1000)) => (Nat.lt_irrefl 1000 h).elim, fun (h : zv_is (.inr 1000)) => (Nat.lt_irrefl 1000 h).elim, fun (h : zv_is (.inr 1000)) => (Nat.lt_irrefl 1000 h).elim, trivial⟩ ⟨fun _ => rfl, fun _ => rfl, fun _ => rfl, fun _ => rfl, fun _ => rfl, trivial⟩ ?_
            exact hK
          · rw [if_pos hc5] at h
            refine zv_ald hB zd69_37 rfl rfl rfl ?_
            refine zv_dup hB zd69_38 rfl ?_
            refine zv_getf hB zd69_39 rfl rfl (fun _ _ => ?_)
            refine zv_con hB zd69_42 rfl ?_
            refine zv_addw hB zd69_43 ?_
            refine zv_putf hB zd69_44 rfl rfl (fun h => by cases h) rfl ?_
            refine zv_ald hB zd69_47 rfl rfl rfl ?_
            refine zv_getq hB zd69_48 rfl rfl rfl ?_
            refine zv_con hB zd69_51 rfl ?_
            refine zv_con hB zd69_52 rfl ?_
            obtain ⟨r6, hr6, h⟩ := zi_bind h
            refine zv_cv hB (zv_emq (va2 := [.inr 2, .inl 3, .inl 0]) (F := [.inl f0, .inl (zi_w (f1 + 1)), .inl f2, .inr 2, .inl f4]) (F' := [.inl f0, .inl (zi_w (f1 + 1)), .inl f2, .inr 2, .inl r6.2.1]) (G := [g0, g1, g2]) (G' := [g0, r6.2.2.1, r6.2.2.2]) (ρ := [2, 3, 4]) (φ := [4]) (ψ := [1, 2]) [none, none, none, none, some 0] [none, some 0, some 1] zyw_Law_addStep zyw_LawReader_readCondition zye_LawReader_readCondition (by decide +kernel) (zt_Law_addStep hr6) ⟨⟨_, rfl, fun _ => rfl⟩, trivial⟩ ⟨rfl, rfl, trivial⟩ rfl rfl rfl rfl rfl rfl rfl) zd69_53 zxt49 rfl (by show 0 + 1 ≤ 38 + (dp + 1); omega) (by show 8 + (3 + 11) + 60 * (0) ≤ 60 * (38 + (dp + 1)); omega) rfl ?_
            refine zv_ist hB zd69_56 rfl rfl rfl ?_
            refine zv_ald hB zd69_57 rfl rfl rfl ?_
            refine zv_ild hB zd69_58 rfl rfl ?_
            obtain ⟨r7, hr7, h⟩ := zi_bind h
            refine zv_cv hB (show zv_Fn _ _ _ zy_LawReader_readCondition _ _ [.inr 0, .inl x1] [.inl f0, .inl (zi_w (f1 + 1)), .inl f2, .inr 2, .inl r6.2.1] [g0, r6.2.2.1, r6.2.2.2] none [.inl r7.1, .inl r7.2.1, .inl f2, .inr 2, .inl r7.2.2.1] [g0, r7.2.2.2.1, r7.2.2.2.2] from ih1 _ _ _ _ _ _ _ _ r7 hr7) zd69_59 zxt70 rfl (by show 38 + dp + 1 ≤ 38 + (dp + 1); omega) (by show 8 + (3 + 11) + 60 * (38 + dp) ≤ 60 * (38 + (dp + 1)); omega) rfl ?_
            refine zv_ald hB zd69_62 rfl rfl rfl ?_
            refine zv_getq hB zd69_63 rfl rfl rfl ?_
            refine zv_ild hB zd69_66 rfl rfl ?_
            obtain ⟨r8, hr8, h⟩ := zi_bind h
            refine zv_cv hB (zv_emq (va2 := [.inr 2, .inl r6.1]) (F := [.inl r7.1, .inl r7.2.1, .inl f2, .inr 2, .inl r7.2.2.1]) (F' := [.inl r7.1, .inl r7.2.1, .inl f2, .inr 2, .inl r7.2.2.1]) (G := [g0, r7.2.2.2.1, r7.2.2.2.2]) (G' := [g0, r7.2.2.2.1, r8]) (ρ := [2, 4]) (φ := [4]) (ψ := [2]) [none, none, none, none, some 0] [none, none, some 0] zyw_Law_landJump zyw_LawReader_readCondition zye_LawReader_readCondition (by decide +kernel) (zt_Law_landJump hr8) ⟨⟨_, rfl, fun _ => rfl⟩, trivial⟩ ⟨rfl, trivial⟩ rfl rfl rfl rfl rfl rfl rfl) zd69_67 zxt73 rfl (by show 0 + 1 ≤ 38 + (dp + 1); omega) (by show 8 + (2 + 11) + 60 * (0) ≤ 60 * (38 + (dp + 1)); omega) rfl ?_
            refine zv_goto hB zd69_70 rfl ?_
            refine zv_wk hB (L' := [.inr 0, .inl x1, .inr 1000]) (F' := [.inl r7.1, .inl r7.2.1, .inl f2, .inr 2, .inl r7.2.2.1]) ⟨fun _ => rfl, fun _ => rfl, fun (h : zv_is (.inr 1000)) => (Nat.lt_irrefl 1000 h).elim, trivial⟩ ⟨fun _ => rfl, fun _ => rfl, fun _ => rfl, fun _ => rfl, fun _ => rfl, trivial⟩ ?_
            exact ih _ _ _ _ _ _ q h hK
  unfold zm_LawReader_readCondition at h
  refine zv_ald hB zd69_0 rfl rfl rfl ?_
  refine zv_ild hB zd69_1 rfl rfl ?_
  obtain ⟨r1, hr1, h⟩ := zi_bind h
  refine zv_cv hB (show zv_Fn _ _ _ zy_LawReader_readCondition _ _ [.inr 0, .inl x1] [.inl f0, .inl f1, .inl f2, .inr 2, .inl f4] [g0, g1, g2] none [.inl r1.1, .inl r1.2.1, .inl f2, .inr 2, .inl r1.2.2.1] [g0, r1.2.2.2.1, r1.2.2.2.2] from ih1 _ _ _ _ _ _ _ _ r1 hr1) zd69_2 zxt70 rfl (by show 38 + dp + 1 ≤ 38 + (dp + 1); omega) (by show 8 + (3 + 11) + 60 * (38 + dp) ≤ 60 * (38 + (dp + 1)); omega) rfl ?_
  obtain ⟨q9, hq9, h⟩ := zi_bind h
  refine l0 _ _ _ _ _ _ _ q9 hq9 ?_
  show good 73 [.inr 1000, .inr 1000, .inr 1000] [] [.inl q9.1, .inl q9.2.1, .inl f2, .inr 2, .inl q9.2.2.1] [g0, q9.2.2.2.1, q9.2.2.2.2]
  have hw := Option.some.inj h
  subst hw
  exact hvret _ _ _ _ zd69_73 trivial ⟨rfl, rfl, rfl⟩
/-! LawReader_readPart (I)V -/
def zm_LawReader_readPart_l0_b (rc : Nat → Int → Int → Int → Int → Int → (Int → Int) → (Int → Int) → (Int → Int) → Option (Int × Int × Int × (Int → Int) × (Int → Int))) (x1 : Int) (f2 : Int) (g0 : (Int → Int)) (rec : Int → Int → Int → (Int → Int) → (Int → Int) → Option (Int × Int × Int × (Int → Int) × (Int → Int))) (f0 : Int) (f1 : Int) (f4 : Int) (g1 : (Int → Int)) (g2 : (Int → Int)) : Option (Int × Int × Int × (Int → Int) × (Int → Int)) := if f0 = 0 then (if f1 < f2 then (cond (zi_ix f1 220) (if (g0 f1) = 38 then ((zf_Law_addStep 4 0 f4 g1 g2).bind fun r6 => ((rc 2 x1 f0 (zi_w (f1 + 1)) f2 r6.2.1 g0 r6.2.2.1 r6.2.2.2).bind fun r7 => ((zf_Law_landJump r6.1 r7.2.2.1 r7.2.2.2.2).bind fun r8 => (rec r7.1 r7.2.1 r7.2.2.1 r7.2.2.2.1 r8)))) else (some (f0, f1, f4, g1, g2))) none) else (some (f0, f1, f4, g1, g2))) else (some (f0, f1, f4, g1, g2))
def zm_LawReader_readPart_l0 (rc : Nat → Int → Int → Int → Int → Int → (Int → Int) → (Int → Int) → (Int → Int) → Option (Int × Int × Int × (Int → Int) × (Int → Int))) (x1 : Int) (f2 : Int) (g0 : (Int → Int)) : Nat → Int → Int → Int → (Int → Int) → (Int → Int) → Option (Int × Int × Int × (Int → Int) × (Int → Int))
  | 0, _, _, _, _, _ => none
  | n + 1, f0, f1, f4, g1, g2 => zm_LawReader_readPart_l0_b rc x1 f2 g0 (zm_LawReader_readPart_l0 rc x1 f2 g0 n) f0 f1 f4 g1 g2
def zm_LawReader_readPart (rc : Nat → Int → Int → Int → Int → Int → (Int → Int) → (Int → Int) → (Int → Int) → Option (Int × Int × Int × (Int → Int) × (Int → Int))) (x1 : Int) (f0 : Int) (f1 : Int) (f2 : Int) (f4 : Int) (g0 : (Int → Int)) (g1 : (Int → Int)) (g2 : (Int → Int)) : Option (Int × Int × Int × (Int → Int) × (Int → Int)) := (rc 2 x1 f0 f1 f2 f4 g0 g1 g2).bind fun r1 => ((zm_LawReader_readPart_l0 rc x1 f2 g0 zi_fu r1.1 r1.2.1 r1.2.2.1 r1.2.2.2.1 r1.2.2.2.2).bind fun q9 => (some (q9.1, q9.2.1, q9.2.2.1, q9.2.2.2.1, q9.2.2.2.2)))
theorem zd70_0 : decode zxm70.2.1 0 = .ok (.aload_n 0, 1) := by decide +kernel
theorem zd70_1 : decode zxm70.2.1 1 = .ok (.iload_n 1, 1) := by decide +kernel
theorem zd70_2 : decode zxm70.2.1 2 = .ok (.invokevirtual 82, 3) := by decide +kernel
theorem zd70_5 : decode zxm70.2.1 5 = .ok (.aload_n 0, 1) := by decide +kernel
theorem zd70_6 : decode zxm70.2.1 6 = .ok (.getfield 18, 3) := by decide +kernel
theorem zd70_9 : decode zxm70.2.1 9 = .ok (.ifCond .ne 64, 3) := by decide +kernel
theorem zd70_12 : decode zxm70.2.1 12 = .ok (.aload_n 0, 1) := by decide +kernel
theorem zd70_13 : decode zxm70.2.1 13 = .ok (.getfield 15, 3) := by decide +kernel
theorem zd70_16 : decode zxm70.2.1 16 = .ok (.aload_n 0, 1) := by decide +kernel
theorem zd70_17 : decode zxm70.2.1 17 = .ok (.getfield 9, 3) := by decide +kernel
theorem zd70_20 : decode zxm70.2.1 20 = .ok (.if_icmp .ge 53, 3) := by decide +kernel
theorem zd70_23 : decode zxm70.2.1 23 = .ok (.aload_n 0, 1) := by decide +kernel
theorem zd70_24 : decode zxm70.2.1 24 = .ok (.getfield 21, 3) := by decide +kernel
theorem zd70_27 : decode zxm70.2.1 27 = .ok (.aload_n 0, 1) := by decide +kernel
theorem zd70_28 : decode zxm70.2.1 28 = .ok (.getfield 15, 3) := by decide +kernel
theorem zd70_31 : decode zxm70.2.1 31 = .ok (.iaload, 1) := by decide +kernel
theorem zd70_32 : decode zxm70.2.1 32 = .ok (.bipush 38, 2) := by decide +kernel
theorem zd70_34 : decode zxm70.2.1 34 = .ok (.if_icmp .ne 39, 3) := by decide +kernel
theorem zd70_37 : decode zxm70.2.1 37 = .ok (.aload_n 0, 1) := by decide +kernel
theorem zd70_38 : decode zxm70.2.1 38 = .ok (.dup, 1) := by decide +kernel
theorem zd70_39 : decode zxm70.2.1 39 = .ok (.getfield 15, 3) := by decide +kernel
theorem zd70_42 : decode zxm70.2.1 42 = .ok (.iconst 1, 1) := by decide +kernel
theorem zd70_43 : decode zxm70.2.1 43 = .ok (.iadd, 1) := by decide +kernel
theorem zd70_44 : decode zxm70.2.1 44 = .ok (.putfield 15, 3) := by decide +kernel
theorem zd70_47 : decode zxm70.2.1 47 = .ok (.aload_n 0, 1) := by decide +kernel
theorem zd70_48 : decode zxm70.2.1 48 = .ok (.getfield 25, 3) := by decide +kernel
theorem zd70_51 : decode zxm70.2.1 51 = .ok (.iconst 4, 1) := by decide +kernel
theorem zd70_52 : decode zxm70.2.1 52 = .ok (.iconst 0, 1) := by decide +kernel
theorem zd70_53 : decode zxm70.2.1 53 = .ok (.invokevirtual 76, 3) := by decide +kernel
theorem zd70_56 : decode zxm70.2.1 56 = .ok (.istore_n 2, 1) := by decide +kernel
theorem zd70_57 : decode zxm70.2.1 57 = .ok (.aload_n 0, 1) := by decide +kernel
theorem zd70_58 : decode zxm70.2.1 58 = .ok (.iload_n 1, 1) := by decide +kernel
theorem zd70_59 : decode zxm70.2.1 59 = .ok (.invokevirtual 82, 3) := by decide +kernel
theorem zd70_62 : decode zxm70.2.1 62 = .ok (.aload_n 0, 1) := by decide +kernel
theorem zd70_63 : decode zxm70.2.1 63 = .ok (.getfield 25, 3) := by decide +kernel
theorem zd70_66 : decode zxm70.2.1 66 = .ok (.iload_n 2, 1) := by decide +kernel
theorem zd70_67 : decode zxm70.2.1 67 = .ok (.invokevirtual 79, 3) := by decide +kernel
theorem zd70_70 : decode zxm70.2.1 70 = .ok (.goto (-65), 3) := by decide +kernel
theorem zd70_73 : decode zxm70.2.1 73 = .ok (.return_, 1) := by decide +kernel
theorem zts_LawReader_readPart {dp : Nat} {rc : Nat → Int → Int → Int → Int → Int → (Int → Int) → (Int → Int) → (Int → Int) → Option (Int × Int × Int × (Int → Int) × (Int → Int))} (ih0 : ∀ (x1 : Int) (f0 : Int) (f1 : Int) (f2 : Int) (f4 : Int) (g0 : (Int → Int)) (g1 : (Int → Int)) (g2 : (Int → Int)) (o : Int × Int × Int × (Int → Int) × (Int → Int)), rc 0 x1 f0 f1 f2 f4 g0 g1 g2 = some o → zv_Fn z_TB z_cl z_KX zy_LawReader_readCondition zxm69 (38 + dp, 60 * (38 + dp)) [.inr 0, .inl x1] [.inl f0, .inl f1, .inl f2, .inr 2, .inl f4] [g0, g1, g2] none [.inl o.1, .inl o.2.1, .inl f2, .inr 2, .inl o.2.2.1] [g0, o.2.2.2.1, o.2.2.2.2]) (ih1 : ∀ (x1 : Int) (f0 : Int) (f1 : Int) (f2 : Int) (f4 : Int) (g0 : (Int → Int)) (g1 : (Int → Int)) (g2 : (Int → Int)) (o : Int × Int × Int × (Int → Int) × (Int → Int)), rc 1 x1 f0 f1 f2 f4 g0 g1 g2 = some o → zv_Fn z_TB z_cl z_KX zy_LawReader_readCondition zxm70 (38 + dp, 60 * (38 + dp)) [.inr 0, .inl x1] [.inl f0, .inl f1, .inl f2, .inr 2, .inl f4] [g0, g1, g2] none [.inl o.1, .inl o.2.1, .inl f2, .inr 2, .inl o.2.2.1] [g0, o.2.2.2.1, o.2.2.2.2]) (ih2 : ∀ (x1 : Int) (f0 : Int) (f1 : Int) (f2 : Int) (f4 : Int) (g0 : (Int → Int)) (g1 : (Int → Int)) (g2 : (Int → Int)) (o : Int × Int × Int × (Int → Int) × (Int → Int)), rc 2 x1 f0 f1 f2 f4 g0 g1 g2 = some o → zv_Fn z_TB z_cl z_KX zy_LawReader_readCondition zxm71 (38 + dp, 60 * (38 + dp)) [.inr 0, .inl x1] [.inl f0, .inl f1, .inl f2, .inr 2, .inl f4] [g0, g1, g2] none [.inl o.1, .inl o.2.1, .inl f2, .inr 2, .inl o.2.2.1] [g0, o.2.2.2.1, o.2.2.2.2]) {x1 : Int} {f0 : Int} {f1 : Int} {f2 : Int} {f4 : Int} {g0 : (Int → Int)} {g1 : (Int → Int)} {g2 : (Int → Int)} {o : Int × Int × Int × (Int → Int) × (Int → Int)} (h : zm_LawReader_readPart rc x1 f0 f1 f2 f4 g0 g1 g2 = some o) : zv_Fn z_TB z_cl z_KX zy_LawReader_readCondition zxm70 (38 + (dp + 1), 60 * (38 + (dp + 1))) [.inr 0, .inl x1] [.inl f0, .inl f1, .inl f2, .inr 2, .inl f4] [g0, g1, g2] none [.inl o.1, .inl o.2.1, .inl f2, .inr 2, .inl o.2.2.1] [g0, o.2.2.2.1, o.2.2.2.2] := zv_meth (K := (z_KF3, z_KC3, z_KL3, z_KT3, [], [], [], none)) (FT := z_FT) (MT := z_MT) (n := 2) zxp70 (z_ks3 _ (fun _ h => List.mem_cons_of_mem _ h) _ _ _ _ (fun j r h _ => by cases h)) (fun _ _ => zs_KX_p) zyw_LawReader_readCondition (fun va F G h => by obtain ⟨rfl, _⟩ := h; rfl) (fun va F G h => by obtain ⟨rfl, _⟩ := h; rfl) rfl fun good va F G hB hret hvret hP => by
  obtain ⟨rfl, rfl, rfl⟩ := hP
  have l0 : ∀ (n : Nat) (x1 : Int) (f0 : Int) (f1 : Int) (f4 : Int) (g1 : (Int → Int)) (g2 : (Int → Int)) (q : Int × Int × Int × (Int → Int) × (Int → Int)), zm_LawReader_readPart_l0 rc x1 f2 g0 n f0 f1 f4 g1 g2 = some q → (good 73 [.inr 1000, .inr 1000, .inr 1000] [] [.inl q.1, .inl q.2.1, .inl f2, .inr 2, .inl q.2.2.1] [g0, q.2.2.2.1, q.2.2.2.2]) → good 5 [.inr 0, .inl x1, .inr 1000] [] [.inl f0, .inl f1, .inl f2, .inr 2, .inl f4] [g0, g1, g2] := by
    intro n
    induction n with
    | zero => intro x1 f0 f1 f4 g1 g2 q h; exact absurd (show none = some q from h) (fun h => by cases h)
    | succ n ih =>
      intro x1 f0 f1 f4 g1 g2 q h hK
      replace h : zm_LawReader_readPart_l0_b rc x1 f2 g0 (zm_LawReader_readPart_l0 rc x1 f2 g0 n) f0 f1 f4 g1 g2 = some q := h
      unfold zm_LawReader_readPart_l0_b at h
      refine zv_ald hB zd70_5 rfl rfl rfl ?_
      refine zv_getf hB zd70_6 rfl rfl (fun _ _ => ?_)
      refine zv_zne hB zd70_9 rfl (fun hc2 => ?_) (fun hc2 => ?_)
      · rw [if_neg hc2] at h
        have hq := Option.some.inj h
        subst hq
        refine zv_wk hB (L' := [.inr 1000, .inr 1000, .inr 1000]) (F' := [.inl f0, .inl f1, .inl f2, .inr 2, .inl f4]) ⟨fun (h : zv_is (.inr 1000)) => (Nat.lt_irrefl 1000 h).elim, fun (h : zv_is (.inr 1000)) => (Nat.lt_irrefl 1000 h).elim, fun (h : zv_is (.inr 1000)) => (Nat.lt_irrefl 1000 h).elim, trivial⟩ ⟨fun _ => rfl, fun _ => rfl, fun _ => rfl, fun _ => rfl, fun _ => rfl, trivial⟩ ?_
        exact hK
      · rw [if_pos hc2] at h
        refine zv_ald hB zd70_12 rfl rfl rfl ?_
        refine zv_getf hB zd70_13 rfl rfl (fun _ _ => ?_)
        refine zv_ald hB zd70_16 rfl rfl rfl ?_
        refine zv_getf hB zd70_17 rfl rfl (fun _ _ => ?_)
        refine zv_cge hB zd70_20 rfl (fun hc3 => ?_) (fun hc3 => ?_)
        · rw [if_neg (Int.not_lt.mpr hc3)] at h
          have hq := Option.some.inj h
          subst hq
          refine zv_wk hB (L' := [.inr 1000, .inr 1000, .inr 1000]) (F' := [.inl f0, .inl f1, .inl f2, .inr 2, .inl f4]) ⟨fun (h : zv_is (.inr 1000)) => (Nat.lt_irrefl 1000 h).elim, fun (h : zv_is (.inr 1000)) => (Nat.lt_irrefl 1000 h).elim, fun (h : zv_is (.inr 1000)) => (Nat.lt_irrefl 1000 h).elim, trivial⟩ ⟨fun _ => rfl, fun _ => rfl, fun _ => rfl, fun _ => rfl, fun _ => rfl, trivial⟩ ?_
          exact hK
        · rw [if_pos hc3] at h
          refine zv_ald hB zd70_23 rfl rfl rfl ?_
          refine zv_getr hB zd70_24 rfl ?_
          refine zv_ald hB zd70_27 rfl rfl rfl ?_
          refine zv_getf hB zd70_28 rfl rfl (fun _ _ => ?_)
          obtain ⟨c4, h⟩ := zi_if h
          refine zv_iald hB zd70_31 rfl rfl (zi_ix_ok c4).1 (zi_ix_ok c4).2 (fun _ _ => ?_)
          refine zv_con hB zd70_32 rfl ?_
          refine zv_cne hB zd70_34 rfl (fun hc5 => ?_) (fun hc5 => ?_)
          · rw [if_neg hc5] at h
            have hq := Option.some.inj h
            subst hq
            refine zv_wk hB (L' := [.inr 1000, .inr 1000, .inr 1000]) (F' := [.inl f0, .inl f1, .inl f2, .inr 2, .inl f4]) ⟨fun (h : zv_is (.inr 1000)) => (Nat.lt_irrefl 1000 h).elim, fun (h : zv_is (.inr 1000)) => (Nat.lt_irrefl 1000 h).elim, fun (h : zv_is (.inr 1000)) => (Nat.lt_irrefl 1000 h).elim, trivial⟩ ⟨fun _ => rfl, fun _ => rfl, fun _ => rfl, fun _ => rfl, fun _ => rfl, trivial⟩ ?_
            exact hK
          · rw [if_pos hc5] at h
            refine zv_ald hB zd70_37 rfl rfl rfl ?_
            refine zv_dup hB zd70_38 rfl ?_
            refine zv_getf hB zd70_39 rfl rfl (fun _ _ => ?_)
            refine zv_con hB zd70_42 rfl ?_
            refine zv_addw hB zd70_43 ?_
            refine zv_putf hB zd70_44 rfl rfl (fun h => by cases h) rfl ?_
            refine zv_ald hB zd70_47 rfl rfl rfl ?_
            refine zv_getq hB zd70_48 rfl rfl rfl ?_
            refine zv_con hB zd70_51 rfl ?_
            refine zv_con hB zd70_52 rfl ?_
            obtain ⟨r6, hr6, h⟩ := zi_bind h
            refine zv_cv hB (zv_emq (va2 := [.inr 2, .inl 4, .inl 0]) (F := [.inl f0, .inl (zi_w (f1 + 1)), .inl f2, .inr 2, .inl f4]) (F' := [.inl f0, .inl (zi_w (f1 + 1)), .inl f2, .inr 2, .inl r6.2.1]) (G := [g0, g1, g2]) (G' := [g0, r6.2.2.1, r6.2.2.2]) (ρ := [2, 3, 4]) (φ := [4]) (ψ := [1, 2]) [none, none, none, none, some 0] [none, some 0, some 1] zyw_Law_addStep zyw_LawReader_readCondition zye_LawReader_readCondition (by decide +kernel) (zt_Law_addStep hr6) ⟨⟨_, rfl, fun _ => rfl⟩, trivial⟩ ⟨rfl, rfl, trivial⟩ rfl rfl rfl rfl rfl rfl rfl) zd70_53 zxt49 rfl (by show 0 + 1 ≤ 38 + (dp + 1); omega) (by show 8 + (3 + 11) + 60 * (0) ≤ 60 * (38 + (dp + 1)); omega) rfl ?_
            refine zv_ist hB zd70_56 rfl rfl rfl ?_
            refine zv_ald hB zd70_57 rfl rfl rfl ?_
            refine zv_ild hB zd70_58 rfl rfl ?_
            obtain ⟨r7, hr7, h⟩ := zi_bind h
            refine zv_cv hB (show zv_Fn _ _ _ zy_LawReader_readCondition _ _ [.inr 0, .inl x1] [.inl f0, .inl (zi_w (f1 + 1)), .inl f2, .inr 2, .inl r6.2.1] [g0, r6.2.2.1, r6.2.2.2] none [.inl r7.1, .inl r7.2.1, .inl f2, .inr 2, .inl r7.2.2.1] [g0, r7.2.2.2.1, r7.2.2.2.2] from ih2 _ _ _ _ _ _ _ _ r7 hr7) zd70_59 zxt71 rfl (by show 38 + dp + 1 ≤ 38 + (dp + 1); omega) (by show 8 + (3 + 11) + 60 * (38 + dp) ≤ 60 * (38 + (dp + 1)); omega) rfl ?_
            refine zv_ald hB zd70_62 rfl rfl rfl ?_
            refine zv_getq hB zd70_63 rfl rfl rfl ?_
            refine zv_ild hB zd70_66 rfl rfl ?_
            obtain ⟨r8, hr8, h⟩ := zi_bind h
            refine zv_cv hB (zv_emq (va2 := [.inr 2, .inl r6.1]) (F := [.inl r7.1, .inl r7.2.1, .inl f2, .inr 2, .inl r7.2.2.1]) (F' := [.inl r7.1, .inl r7.2.1, .inl f2, .inr 2, .inl r7.2.2.1]) (G := [g0, r7.2.2.2.1, r7.2.2.2.2]) (G' := [g0, r7.2.2.2.1, r8]) (ρ := [2, 4]) (φ := [4]) (ψ := [2]) [none, none, none, none, some 0] [none, none, some 0] zyw_Law_landJump zyw_LawReader_readCondition zye_LawReader_readCondition (by decide +kernel) (zt_Law_landJump hr8) ⟨⟨_, rfl, fun _ => rfl⟩, trivial⟩ ⟨rfl, trivial⟩ rfl rfl rfl rfl rfl rfl rfl) zd70_67 zxt73 rfl (by show 0 + 1 ≤ 38 + (dp + 1); omega) (by show 8 + (2 + 11) + 60 * (0) ≤ 60 * (38 + (dp + 1)); omega) rfl ?_
            refine zv_goto hB zd70_70 rfl ?_
            refine zv_wk hB (L' := [.inr 0, .inl x1, .inr 1000]) (F' := [.inl r7.1, .inl r7.2.1, .inl f2, .inr 2, .inl r7.2.2.1]) ⟨fun _ => rfl, fun _ => rfl, fun (h : zv_is (.inr 1000)) => (Nat.lt_irrefl 1000 h).elim, trivial⟩ ⟨fun _ => rfl, fun _ => rfl, fun _ => rfl, fun _ => rfl, fun _ => rfl, trivial⟩ ?_
            exact ih _ _ _ _ _ _ q h hK
  unfold zm_LawReader_readPart at h
  refine zv_ald hB zd70_0 rfl rfl rfl ?_
  refine zv_ild hB zd70_1 rfl rfl ?_
  obtain ⟨r1, hr1, h⟩ := zi_bind h
  refine zv_cv hB (show zv_Fn _ _ _ zy_LawReader_readCondition _ _ [.inr 0, .inl x1] [.inl f0, .inl f1, .inl f2, .inr 2, .inl f4] [g0, g1, g2] none [.inl r1.1, .inl r1.2.1, .inl f2, .inr 2, .inl r1.2.2.1] [g0, r1.2.2.2.1, r1.2.2.2.2] from ih2 _ _ _ _ _ _ _ _ r1 hr1) zd70_2 zxt71 rfl (by show 38 + dp + 1 ≤ 38 + (dp + 1); omega) (by show 8 + (3 + 11) + 60 * (38 + dp) ≤ 60 * (38 + (dp + 1)); omega) rfl ?_
  obtain ⟨q9, hq9, h⟩ := zi_bind h
  refine l0 _ _ _ _ _ _ _ q9 hq9 ?_
  show good 73 [.inr 1000, .inr 1000, .inr 1000] [] [.inl q9.1, .inl q9.2.1, .inl f2, .inr 2, .inl q9.2.2.1] [g0, q9.2.2.2.1, q9.2.2.2.2]
  have hw := Option.some.inj h
  subst hw
  exact hvret _ _ _ _ zd70_73 trivial ⟨rfl, rfl, rfl⟩
/-! LawReader_readPiece (I)V -/
def zm_LawReader_readPiece (rc : Nat → Int → Int → Int → Int → Int → (Int → Int) → (Int → Int) → (Int → Int) → Option (Int × Int × Int × (Int → Int) × (Int → Int))) (x1 : Int) (f0 : Int) (f1 : Int) (f2 : Int) (f4 : Int) (g0 : (Int → Int)) (g1 : (Int → Int)) (g2 : (Int → Int)) : Option (Int × Int × Int × (Int → Int) × (Int → Int)) := (zf_LawReader_peek f1 f2 g0).bind fun r1 => (if f0 = 0 then (if r1 = 33 then (if x1 < 6 then ((rc 2 (zi_w (x1 + 1)) f0 (zi_w (f1 + 1)) f2 f4 g0 g1 g2).bind fun r6 => ((zf_Law_addStep 2 0 r6.2.2.1 r6.2.2.2.1 r6.2.2.2.2).bind fun r7 => (some (r6.1, r6.2.1, r7.2.1, r7.2.2.1, r7.2.2.2)))) else ((zf_LawReader_fail 5 f0 f1).bind fun r8 => (some (r8, f1, f4, g1, g2)))) else (if r1 = 40 then (if x1 < 6 then ((rc 0 (zi_w (x1 + 1)) f0 (zi_w (f1 + 1)) f2 f4 g0 g1 g2).bind fun r12 => ((zf_LawReader_skip 41 r12.1 r12.2.1 f2 g0).bind fun r13 => (some (r13.1, r13.2, r12.2.2.1, r12.2.2.2.1, r12.2.2.2.2)))) else ((zf_LawReader_fail 5 f0 f1).bind fun r14 => (some (r14, f1, f4, g1, g2)))) else ((zf_LawReader_readComparison x1 f0 f1 f2 f4 g0 g1 g2).bind fun r15 => (some (r15.1, r15.2.1, r15.2.2.1, r15.2.2.2.1, r15.2.2.2.2))))) else (some (f0, f1, f4, g1, g2)))
theorem zd71_0 : decode zxm71.2.1 0 = .ok (.aload_n 0, 1) := by decide +kernel
theorem zd71_1 : decode zxm71.2.1 1 = .ok (.invokevirtual 53, 3) := by decide +kernel
theorem zd71_4 : decode zxm71.2.1 4 = .ok (.istore_n 2, 1) := by decide +kernel
theorem zd71_5 : decode zxm71.2.1 5 = .ok (.aload_n 0, 1) := by decide +kernel
theorem zd71_6 : decode zxm71.2.1 6 = .ok (.getfield 18, 3) := by decide +kernel
theorem zd71_9 : decode zxm71.2.1 9 = .ok (.ifCond .eq 4, 3) := by decide +kernel
theorem zd71_12 : decode zxm71.2.1 12 = .ok (.return_, 1) := by decide +kernel
theorem zd71_13 : decode zxm71.2.1 13 = .ok (.iload_n 2, 1) := by decide +kernel
theorem zd71_14 : decode zxm71.2.1 14 = .ok (.bipush 33, 2) := by decide +kernel
theorem zd71_16 : decode zxm71.2.1 16 = .ok (.if_icmp .eq 17, 3) := by decide +kernel
theorem zd71_19 : decode zxm71.2.1 19 = .ok (.iload_n 2, 1) := by decide +kernel
theorem zd71_20 : decode zxm71.2.1 20 = .ok (.bipush 40, 2) := by decide +kernel
theorem zd71_22 : decode zxm71.2.1 22 = .ok (.if_icmp .eq 11, 3) := by decide +kernel
theorem zd71_25 : decode zxm71.2.1 25 = .ok (.aload_n 0, 1) := by decide +kernel
theorem zd71_26 : decode zxm71.2.1 26 = .ok (.iload_n 1, 1) := by decide +kernel
theorem zd71_27 : decode zxm71.2.1 27 = .ok (.invokevirtual 85, 3) := by decide +kernel
theorem zd71_30 : decode zxm71.2.1 30 = .ok (.goto 76, 3) := by decide +kernel
theorem zd71_33 : decode zxm71.2.1 33 = .ok (.iload_n 1, 1) := by decide +kernel
theorem zd71_34 : decode zxm71.2.1 34 = .ok (.bipush 6, 2) := by decide +kernel
theorem zd71_36 : decode zxm71.2.1 36 = .ok (.if_icmp .lt 11, 3) := by decide +kernel
theorem zd71_39 : decode zxm71.2.1 39 = .ok (.aload_n 0, 1) := by decide +kernel
theorem zd71_40 : decode zxm71.2.1 40 = .ok (.iconst 5, 1) := by decide +kernel
theorem zd71_41 : decode zxm71.2.1 41 = .ok (.invokevirtual 57, 3) := by decide +kernel
theorem zd71_44 : decode zxm71.2.1 44 = .ok (.goto 62, 3) := by decide +kernel
theorem zd71_47 : decode zxm71.2.1 47 = .ok (.iload_n 2, 1) := by decide +kernel
theorem zd71_48 : decode zxm71.2.1 48 = .ok (.bipush 33, 2) := by decide +kernel
theorem zd71_50 : decode zxm71.2.1 50 = .ok (.if_icmp .ne 33, 3) := by decide +kernel
theorem zd71_53 : decode zxm71.2.1 53 = .ok (.aload_n 0, 1) := by decide +kernel
theorem zd71_54 : decode zxm71.2.1 54 = .ok (.dup, 1) := by decide +kernel
theorem zd71_55 : decode zxm71.2.1 55 = .ok (.getfield 15, 3) := by decide +kernel
theorem zd71_58 : decode zxm71.2.1 58 = .ok (.iconst 1, 1) := by decide +kernel
theorem zd71_59 : decode zxm71.2.1 59 = .ok (.iadd, 1) := by decide +kernel
theorem zd71_60 : decode zxm71.2.1 60 = .ok (.putfield 15, 3) := by decide +kernel
theorem zd71_63 : decode zxm71.2.1 63 = .ok (.aload_n 0, 1) := by decide +kernel
theorem zd71_64 : decode zxm71.2.1 64 = .ok (.iload_n 1, 1) := by decide +kernel
theorem zd71_65 : decode zxm71.2.1 65 = .ok (.iconst 1, 1) := by decide +kernel
theorem zd71_66 : decode zxm71.2.1 66 = .ok (.iadd, 1) := by decide +kernel
theorem zd71_67 : decode zxm71.2.1 67 = .ok (.invokevirtual 82, 3) := by decide +kernel
theorem zd71_70 : decode zxm71.2.1 70 = .ok (.aload_n 0, 1) := by decide +kernel
theorem zd71_71 : decode zxm71.2.1 71 = .ok (.getfield 25, 3) := by decide +kernel
theorem zd71_74 : decode zxm71.2.1 74 = .ok (.iconst 2, 1) := by decide +kernel
theorem zd71_75 : decode zxm71.2.1 75 = .ok (.iconst 0, 1) := by decide +kernel
theorem zd71_76 : decode zxm71.2.1 76 = .ok (.invokevirtual 76, 3) := by decide +kernel
theorem zd71_79 : decode zxm71.2.1 79 = .ok (.pop, 1) := by decide +kernel
theorem zd71_80 : decode zxm71.2.1 80 = .ok (.goto 26, 3) := by decide +kernel
theorem zd71_83 : decode zxm71.2.1 83 = .ok (.aload_n 0, 1) := by decide +kernel
theorem zd71_84 : decode zxm71.2.1 84 = .ok (.dup, 1) := by decide +kernel
theorem zd71_85 : decode zxm71.2.1 85 = .ok (.getfield 15, 3) := by decide +kernel
theorem zd71_88 : decode zxm71.2.1 88 = .ok (.iconst 1, 1) := by decide +kernel
theorem zd71_89 : decode zxm71.2.1 89 = .ok (.iadd, 1) := by decide +kernel
theorem zd71_90 : decode zxm71.2.1 90 = .ok (.putfield 15, 3) := by decide +kernel
theorem zd71_93 : decode zxm71.2.1 93 = .ok (.aload_n 0, 1) := by decide +kernel
theorem zd71_94 : decode zxm71.2.1 94 = .ok (.iload_n 1, 1) := by decide +kernel
theorem zd71_95 : decode zxm71.2.1 95 = .ok (.iconst 1, 1) := by decide +kernel
theorem zd71_96 : decode zxm71.2.1 96 = .ok (.iadd, 1) := by decide +kernel
theorem zd71_97 : decode zxm71.2.1 97 = .ok (.invokevirtual 66, 3) := by decide +kernel
theorem zd71_100 : decode zxm71.2.1 100 = .ok (.aload_n 0, 1) := by decide +kernel
theorem zd71_101 : decode zxm71.2.1 101 = .ok (.bipush 41, 2) := by decide +kernel
theorem zd71_103 : decode zxm71.2.1 103 = .ok (.invokevirtual 43, 3) := by decide +kernel
theorem zd71_106 : decode zxm71.2.1 106 = .ok (.return_, 1) := by decide +kernel
theorem zts_LawReader_readPiece {dp : Nat} {rc : Nat → Int → Int → Int → Int → Int → (Int → Int) → (Int → Int) → (Int → Int) → Option (Int × Int × Int × (Int → Int) × (Int → Int))} (ih0 : ∀ (x1 : Int) (f0 : Int) (f1 : Int) (f2 : Int) (f4 : Int) (g0 : (Int → Int)) (g1 : (Int → Int)) (g2 : (Int → Int)) (o : Int × Int × Int × (Int → Int) × (Int → Int)), rc 0 x1 f0 f1 f2 f4 g0 g1 g2 = some o → zv_Fn z_TB z_cl z_KX zy_LawReader_readCondition zxm69 (38 + dp, 60 * (38 + dp)) [.inr 0, .inl x1] [.inl f0, .inl f1, .inl f2, .inr 2, .inl f4] [g0, g1, g2] none [.inl o.1, .inl o.2.1, .inl f2, .inr 2, .inl o.2.2.1] [g0, o.2.2.2.1, o.2.2.2.2]) (ih1 : ∀ (x1 : Int) (f0 : Int) (f1 : Int) (f2 : Int) (f4 : Int) (g0 : (Int → Int)) (g1 : (Int → Int)) (g2 : (Int → Int)) (o : Int × Int × Int × (Int → Int) × (Int → Int)), rc 1 x1 f0 f1 f2 f4 g0 g1 g2 = some o → zv_Fn z_TB z_cl z_KX zy_LawReader_readCondition zxm70 (38 + dp, 60 * (38 + dp)) [.inr 0, .inl x1] [.inl f0, .inl f1, .inl f2, .inr 2, .inl f4] [g0, g1, g2] none [.inl o.1, .inl o.2.1, .inl f2, .inr 2, .inl o.2.2.1] [g0, o.2.2.2.1, o.2.2.2.2]) (ih2 : ∀ (x1 : Int) (f0 : Int) (f1 : Int) (f2 : Int) (f4 : Int) (g0 : (Int → Int)) (g1 : (Int → Int)) (g2 : (Int → Int)) (o : Int × Int × Int × (Int → Int) × (Int → Int)), rc 2 x1 f0 f1 f2 f4 g0 g1 g2 = some o → zv_Fn z_TB z_cl z_KX zy_LawReader_readCondition zxm71 (38 + dp, 60 * (38 + dp)) [.inr 0, .inl x1] [.inl f0, .inl f1, .inl f2, .inr 2, .inl f4] [g0, g1, g2] none [.inl o.1, .inl o.2.1, .inl f2, .inr 2, .inl o.2.2.1] [g0, o.2.2.2.1, o.2.2.2.2]) {x1 : Int} {f0 : Int} {f1 : Int} {f2 : Int} {f4 : Int} {g0 : (Int → Int)} {g1 : (Int → Int)} {g2 : (Int → Int)} {o : Int × Int × Int × (Int → Int) × (Int → Int)} (h : zm_LawReader_readPiece rc x1 f0 f1 f2 f4 g0 g1 g2 = some o) : zv_Fn z_TB z_cl z_KX zy_LawReader_readCondition zxm71 (38 + (dp + 1), 60 * (38 + (dp + 1))) [.inr 0, .inl x1] [.inl f0, .inl f1, .inl f2, .inr 2, .inl f4] [g0, g1, g2] none [.inl o.1, .inl o.2.1, .inl f2, .inr 2, .inl o.2.2.1] [g0, o.2.2.2.1, o.2.2.2.2] := zv_meth (K := (z_KF3, z_KC3, z_KL3, z_KT3, [], [], [], none)) (FT := z_FT) (MT := z_MT) (n := 2) zxp71 (z_ks3 _ (fun _ h => List.mem_cons_of_mem _ h) _ _ _ _ (fun j r h _ => by cases h)) (fun _ _ => zs_KX_p) zyw_LawReader_readCondition (fun va F G h => by obtain ⟨rfl, _⟩ := h; rfl) (fun va F G h => by obtain ⟨rfl, _⟩ := h; rfl) rfl fun good va F G hB hret hvret hP => by
  obtain ⟨rfl, rfl, rfl⟩ := hP
  unfold zm_LawReader_readPiece at h
  refine zv_ald hB zd71_0 rfl rfl rfl ?_
  obtain ⟨r1, hr1, h⟩ := zi_bind h
  refine zv_cv hB (zv_emq (va2 := [.inr 0]) (F := [.inl f0, .inl f1, .inl f2, .inr 2, .inl f4]) (F' := [.inl f0, .inl f1, .inl f2, .inr 2, .inl f4]) (G := [g0, g1, g2]) (G' := [g0, g1, g2]) (ρ := [0, 1]) (φ := [1, 2]) (ψ := [0]) [none, some 0, some 1, none, none] [some 0, none, none] zyw_LawReader_peek zyw_LawReader_readCondition zye_LawReader_readCondition (by decide +kernel) (zt_LawReader_peek hr1) ⟨⟨_, rfl, fun _ => rfl⟩, ⟨_, rfl, fun _ => rfl⟩, trivial⟩ ⟨rfl, trivial⟩ rfl rfl rfl rfl rfl rfl rfl) zd71_1 zxt40 rfl (by show 0 + 1 ≤ 38 + (dp + 1); omega) (by show 8 + (1 + 11) + 60 * (0) ≤ 60 * (38 + (dp + 1)); omega) rfl ?_
  refine zv_ist hB zd71_4 rfl rfl rfl ?_
  refine zv_ald hB zd71_5 rfl rfl rfl ?_
  refine zv_getf hB zd71_6 rfl rfl (fun _ _ => ?_)
  refine zv_zeq hB zd71_9 rfl (fun hc2 => ?_) (fun hc2 => ?_)
  · rw [if_pos hc2] at h
    refine zv_ild hB zd71_13 rfl rfl ?_
    refine zv_con hB zd71_14 rfl ?_
    refine zv_ceq hB zd71_16 rfl (fun hc3 => ?_) (fun hc3 => ?_)
    · rw [if_pos hc3] at h
      refine zv_ild hB zd71_33 rfl rfl ?_
      refine zv_con hB zd71_34 rfl ?_
      refine zv_clt hB zd71_36 rfl (fun hc4 => ?_) (fun hc4 => ?_)
      · rw [if_pos hc4] at h
        refine zv_ild hB zd71_47 rfl rfl ?_
        refine zv_con hB zd71_48 rfl ?_
        refine zv_cne hB zd71_50 rfl (fun hc => absurd hc (by omega)) (fun _ => ?_)
        refine zv_ald hB zd71_53 rfl rfl rfl ?_
        refine zv_dup hB zd71_54 rfl ?_
        refine zv_getf hB zd71_55 rfl rfl (fun _ _ => ?_)
        refine zv_con hB zd71_58 rfl ?_
        refine zv_addw hB zd71_59 ?_
        refine zv_putf hB zd71_60 rfl rfl (fun h => by cases h) rfl ?_
        refine zv_ald hB zd71_63 rfl rfl rfl ?_
        refine zv_ild hB zd71_64 rfl rfl ?_
        refine zv_con hB zd71_65 rfl ?_
        refine zv_addw hB zd71_66 ?_
        obtain ⟨r6, hr6, h⟩ := zi_bind h
        refine zv_cv hB (show zv_Fn _ _ _ zy_LawReader_readCondition _ _ [.inr 0, .inl (zi_w (x1 + 1))] [.inl f0, .inl (zi_w (f1 + 1)), .inl f2, .inr 2, .inl f4] [g0, g1, g2] none [.inl r6.1, .inl r6.2.1, .inl f2, .inr 2, .inl r6.2.2.1] [g0, r6.2.2.2.1, r6.2.2.2.2] from ih2 _ _ _ _ _ _ _ _ r6 hr6) zd71_67 zxt71 rfl (by show 38 + dp + 1 ≤ 38 + (dp + 1); omega) (by show 8 + (3 + 11) + 60 * (38 + dp) ≤ 60 * (38 + (dp + 1)); omega) rfl ?_
        refine zv_ald hB zd71_70 rfl rfl rfl ?_
        refine zv_getq hB zd71_71 rfl rfl rfl ?_
        refine zv_con hB zd71_74 rfl ?_
        refine zv_con hB zd71_75 rfl ?_
        obtain ⟨r7, hr7, h⟩ := zi_bind h
        refine zv_cv hB (zv_emq (va2 := [.inr 2, .inl 2, .inl 0]) (F := [.inl r6.1, .inl r6.2.1, .inl f2, .inr 2, .inl r6.2.2.1]) (F' := [.inl r6.1, .inl r6.2.1, .inl f2, .inr 2, .inl r7.2.1]) (G := [g0, r6.2.2.2.1, r6.2.2.2.2]) (G' := [g0, r7.2.2.1, r7.2.2.2]) (ρ := [2, 3, 4]) (φ := [4]) (ψ := [1, 2]) [none, none, none, none, some 0] [none, some 0, some 1] zyw_Law_addStep zyw_LawReader_readCondition zye_LawReader_readCondition (by decide +kernel) (zt_Law_addStep hr7) ⟨⟨_, rfl, fun _ => rfl⟩, trivial⟩ ⟨rfl, rfl, trivial⟩ rfl rfl rfl rfl rfl rfl rfl) zd71_76 zxt49 rfl (by show 0 + 1 ≤ 38 + (dp + 1); omega) (by show 8 + (3 + 11) + 60 * (0) ≤ 60 * (38 + (dp + 1)); omega) rfl ?_
        refine zv_pop hB zd71_79 rfl ?_
        refine zv_goto hB zd71_80 rfl ?_
        have hw := Option.some.inj h
        subst hw
        exact hvret _ _ _ _ zd71_106 trivial ⟨rfl, rfl, rfl⟩
      · rw [if_neg (Int.not_lt.mpr hc4)] at h
        refine zv_ald hB zd71_39 rfl rfl rfl ?_
        refine zv_con hB zd71_40 rfl ?_
        obtain ⟨r8, hr8, h⟩ := zi_bind h
        refine zv_cv hB (zv_emq (va2 := [.inr 0, .inl 5]) (F := [.inl f0, .inl f1, .inl f2, .inr 2, .inl f4]) (F' := [.inl r8, .inl f1, .inl f2, .inr 2, .inl f4]) (G := [g0, g1, g2]) (G' := [g0, g1, g2]) (ρ := [0]) (φ := [0, 1]) (ψ := []) [some 0, some 1, none, none, none] [none, none, none] zyw_LawReader_fail zyw_LawReader_readCondition zye_LawReader_readCondition (by decide +kernel) (zt_LawReader_fail hr8) ⟨⟨_, rfl, fun _ => rfl⟩, ⟨_, rfl, fun _ => rfl⟩, trivial⟩ trivial rfl rfl rfl rfl rfl rfl rfl) zd71_41 zxt41 rfl (by show 1 + 1 ≤ 38 + (dp + 1); omega) (by show 8 + (2 + 11) + 60 * (1) ≤ 60 * (38 + (dp + 1)); omega) rfl ?_
        refine zv_goto hB zd71_44 rfl ?_
        have hw := Option.some.inj h
        subst hw
        exact hvret _ _ _ _ zd71_106 trivial ⟨rfl, rfl, rfl⟩
    · rw [if_neg hc3] at h
      refine zv_ild hB zd71_19 rfl rfl ?_
      refine zv_con hB zd71_20 rfl ?_
      refine zv_ceq hB zd71_22 rfl (fun hc9 => ?_) (fun hc9 => ?_)
      · rw [if_pos hc9] at h
        refine zv_ild hB zd71_33 rfl rfl ?_
        refine zv_con hB zd71_34 rfl ?_
        refine zv_clt hB zd71_36 rfl (fun hc10 => ?_) (fun hc10 => ?_)
        · rw [if_pos hc10] at h
          refine zv_ild hB zd71_47 rfl rfl ?_
          refine zv_con hB zd71_48 rfl ?_
          refine zv_cne hB zd71_50 rfl (fun _ => ?_) (fun hc => absurd hc (by omega))
          refine zv_ald hB zd71_83 rfl rfl rfl ?_
          refine zv_dup hB zd71_84 rfl ?_
          refine zv_getf hB zd71_85 rfl rfl (fun _ _ => ?_)
          refine zv_con hB zd71_88 rfl ?_
          refine zv_addw hB zd71_89 ?_
          refine zv_putf hB zd71_90 rfl rfl (fun h => by cases h) rfl ?_
          refine zv_ald hB zd71_93 rfl rfl rfl ?_
          refine zv_ild hB zd71_94 rfl rfl ?_
          refine zv_con hB zd71_95 rfl ?_
          refine zv_addw hB zd71_96 ?_
          obtain ⟨r12, hr12, h⟩ := zi_bind h
          refine zv_cv hB (show zv_Fn _ _ _ zy_LawReader_readCondition _ _ [.inr 0, .inl (zi_w (x1 + 1))] [.inl f0, .inl (zi_w (f1 + 1)), .inl f2, .inr 2, .inl f4] [g0, g1, g2] none [.inl r12.1, .inl r12.2.1, .inl f2, .inr 2, .inl r12.2.2.1] [g0, r12.2.2.2.1, r12.2.2.2.2] from ih0 _ _ _ _ _ _ _ _ r12 hr12) zd71_97 zxt69 rfl (by show 38 + dp + 1 ≤ 38 + (dp + 1); omega) (by show 8 + (3 + 11) + 60 * (38 + dp) ≤ 60 * (38 + (dp + 1)); omega) rfl ?_
          refine zv_ald hB zd71_100 rfl rfl rfl ?_
          refine zv_con hB zd71_101 rfl ?_
          obtain ⟨r13, hr13, h⟩ := zi_bind h
          refine zv_cv hB (zv_emq (va2 := [.inr 0, .inl 41]) (F := [.inl r12.1, .inl r12.2.1, .inl f2, .inr 2, .inl r12.2.2.1]) (F' := [.inl r13.1, .inl r13.2, .inl f2, .inr 2, .inl r12.2.2.1]) (G := [g0, r12.2.2.2.1, r12.2.2.2.2]) (G' := [g0, r12.2.2.2.1, r12.2.2.2.2]) (ρ := [0, 1]) (φ := [0, 1, 2]) (ψ := [0]) [some 0, some 1, some 2, none, none] [some 0, none, none] zyw_LawReader_skip zyw_LawReader_readCondition zye_LawReader_readCondition (by decide +kernel) (zt_LawReader_skip hr13) ⟨⟨_, rfl, fun _ => rfl⟩, ⟨_, rfl, fun _ => rfl⟩, ⟨_, rfl, fun _ => rfl⟩, trivial⟩ ⟨rfl, trivial⟩ rfl rfl rfl rfl rfl rfl rfl) zd71_103 zxt46 rfl (by show 2 + 1 ≤ 38 + (dp + 1); omega) (by show 8 + (2 + 11) + 60 * (2) ≤ 60 * (38 + (dp + 1)); omega) rfl ?_
          have hw := Option.some.inj h
          subst hw
          exact hvret _ _ _ _ zd71_106 trivial ⟨rfl, rfl, rfl⟩
        · rw [if_neg (Int.not_lt.mpr hc10)] at h
          refine zv_ald hB zd71_39 rfl rfl rfl ?_
          refine zv_con hB zd71_40 rfl ?_
          obtain ⟨r14, hr14, h⟩ := zi_bind h
          refine zv_cv hB (zv_emq (va2 := [.inr 0, .inl 5]) (F := [.inl f0, .inl f1, .inl f2, .inr 2, .inl f4]) (F' := [.inl r14, .inl f1, .inl f2, .inr 2, .inl f4]) (G := [g0, g1, g2]) (G' := [g0, g1, g2]) (ρ := [0]) (φ := [0, 1]) (ψ := []) [some 0, some 1, none, none, none] [none, none, none] zyw_LawReader_fail zyw_LawReader_readCondition zye_LawReader_readCondition (by decide +kernel) (zt_LawReader_fail hr14) ⟨⟨_, rfl, fun _ => rfl⟩, ⟨_, rfl, fun _ => rfl⟩, trivial⟩ trivial rfl rfl rfl rfl rfl rfl rfl) zd71_41 zxt41 rfl (by show 1 + 1 ≤ 38 + (dp + 1); omega) (by show 8 + (2 + 11) + 60 * (1) ≤ 60 * (38 + (dp + 1)); omega) rfl ?_
          refine zv_goto hB zd71_44 rfl ?_
          have hw := Option.some.inj h
          subst hw
          exact hvret _ _ _ _ zd71_106 trivial ⟨rfl, rfl, rfl⟩
      · rw [if_neg hc9] at h
        refine zv_ald hB zd71_25 rfl rfl rfl ?_
        refine zv_ild hB zd71_26 rfl rfl ?_
        obtain ⟨r15, hr15, h⟩ := zi_bind h
        refine zv_cv hB (zv_emq (va2 := [.inr 0, .inl x1]) (F := [.inl f0, .inl f1, .inl f2, .inr 2, .inl f4]) (F' := [.inl r15.1, .inl r15.2.1, .inl f2, .inr 2, .inl r15.2.2.1]) (G := [g0, g1, g2]) (G' := [g0, r15.2.2.2.1, r15.2.2.2.2]) (ρ := [0, 1, 2, 3, 4]) (φ := [3, 0, 1, 2, 4]) (ψ := [0, 1, 2]) [some 1, some 2, some 3, some 0, some 4] [some 0, some 1, some 2] zyw_LawReader_readComparison zyw_LawReader_readCondition zye_LawReader_readCondition (by decide +kernel) (zt_LawReader_readComparison hr15) ⟨⟨_, rfl, fun _ => rfl⟩, ⟨_, rfl, fun _ => rfl⟩, ⟨_, rfl, fun _ => rfl⟩, ⟨_, rfl, fun _ => rfl⟩, ⟨_, rfl, fun _ => rfl⟩, trivial⟩ ⟨rfl, rfl, rfl, trivial⟩ rfl rfl rfl rfl rfl rfl rfl) zd71_27 zxt72 rfl (by show 37 + 1 ≤ 38 + (dp + 1); omega) (by show 8 + (3 + 11) + 60 * (37) ≤ 60 * (38 + (dp + 1)); omega) rfl ?_
        refine zv_goto hB zd71_30 rfl ?_
        have hw := Option.some.inj h
        subst hw
        exact hvret _ _ _ _ zd71_106 trivial ⟨rfl, rfl, rfl⟩
  · rw [if_neg hc2] at h
    have hw := Option.some.inj h
    subst hw
    exact hvret _ _ _ _ zd71_12 trivial ⟨rfl, rfl, rfl⟩
def zg_LawReader_readCondition : Nat → Nat → Int → Int → Int → Int → Int → (Int → Int) → (Int → Int) → (Int → Int) → Option (Int × Int × Int × (Int → Int) × (Int → Int))
  | 0, _, _, _, _, _, _, _, _, _ => none
  | n + 1, 0, x1, f0, f1, f2, f4, g0, g1, g2 => zm_LawReader_readCondition (zg_LawReader_readCondition n) x1 f0 f1 f2 f4 g0 g1 g2
  | n + 1, 1, x1, f0, f1, f2, f4, g0, g1, g2 => zm_LawReader_readPart (zg_LawReader_readCondition n) x1 f0 f1 f2 f4 g0 g1 g2
  | n + 1, _, x1, f0, f1, f2, f4, g0, g1, g2 => zm_LawReader_readPiece (zg_LawReader_readCondition n) x1 f0 f1 f2 f4 g0 g1 g2
theorem ztg_LawReader_readCondition : ∀ n : Nat, (∀ (x1 : Int) (f0 : Int) (f1 : Int) (f2 : Int) (f4 : Int) (g0 : (Int → Int)) (g1 : (Int → Int)) (g2 : (Int → Int)) (o : Int × Int × Int × (Int → Int) × (Int → Int)), zg_LawReader_readCondition n 0 x1 f0 f1 f2 f4 g0 g1 g2 = some o → zv_Fn z_TB z_cl z_KX zy_LawReader_readCondition zxm69 (38 + n, 60 * (38 + n)) [.inr 0, .inl x1] [.inl f0, .inl f1, .inl f2, .inr 2, .inl f4] [g0, g1, g2] none [.inl o.1, .inl o.2.1, .inl f2, .inr 2, .inl o.2.2.1] [g0, o.2.2.2.1, o.2.2.2.2]) ∧ (∀ (x1 : Int) (f0 : Int) (f1 : Int) (f2 : Int) (f4 : Int) (g0 : (Int → Int)) (g1 : (Int → Int)) (g2 : (Int → Int)) (o : Int × Int × Int × (Int → Int) × (Int → Int)), zg_LawReader_readCondition n 1 x1 f0 f1 f2 f4 g0 g1 g2 = some o → zv_Fn z_TB z_cl z_KX zy_LawReader_readCondition zxm70 (38 + n, 60 * (38 + n)) [.inr 0, .inl x1] [.inl f0, .inl f1, .inl f2, .inr 2, .inl f4] [g0, g1, g2] none [.inl o.1, .inl o.2.1, .inl f2, .inr 2, .inl o.2.2.1] [g0, o.2.2.2.1, o.2.2.2.2]) ∧ (∀ (x1 : Int) (f0 : Int) (f1 : Int) (f2 : Int) (f4 : Int) (g0 : (Int → Int)) (g1 : (Int → Int)) (g2 : (Int → Int)) (o : Int × Int × Int × (Int → Int) × (Int → Int)), zg_LawReader_readCondition n 2 x1 f0 f1 f2 f4 g0 g1 g2 = some o → zv_Fn z_TB z_cl z_KX zy_LawReader_readCondition zxm71 (38 + n, 60 * (38 + n)) [.inr 0, .inl x1] [.inl f0, .inl f1, .inl f2, .inr 2, .inl f4] [g0, g1, g2] none [.inl o.1, .inl o.2.1, .inl f2, .inr 2, .inl o.2.2.1] [g0, o.2.2.2.1, o.2.2.2.2]) := by
  intro n
  induction n with
  | zero => exact ⟨fun _ _ _ _ _ _ _ _ o h => absurd (show none = some o from h) (fun h => by cases h), fun _ _ _ _ _ _ _ _ o h => absurd (show none = some o from h) (fun h => by cases h), fun _ _ _ _ _ _ _ _ o h => absurd (show none = some o from h) (fun h => by cases h)⟩
  | succ n ih =>
    obtain ⟨ih0, ih1, ih2⟩ := ih
    exact ⟨fun _ _ _ _ _ _ _ _ o h => zts_LawReader_readCondition (rc := zg_LawReader_readCondition n) ih0 ih1 ih2 h, fun _ _ _ _ _ _ _ _ o h => zts_LawReader_readPart (rc := zg_LawReader_readCondition n) ih0 ih1 ih2 h, fun _ _ _ _ _ _ _ _ o h => zts_LawReader_readPiece (rc := zg_LawReader_readCondition n) ih0 ih1 ih2 h⟩
def zf_LawReader_readCondition (x1 : Int) (f0 : Int) (f1 : Int) (f2 : Int) (f4 : Int) (g0 : (Int → Int)) (g1 : (Int → Int)) (g2 : (Int → Int)) : Option (Int × Int × Int × (Int → Int) × (Int → Int)) := zg_LawReader_readCondition 40 0 x1 f0 f1 f2 f4 g0 g1 g2
theorem zt_LawReader_readCondition {x1 : Int} {f0 : Int} {f1 : Int} {f2 : Int} {f4 : Int} {g0 : (Int → Int)} {g1 : (Int → Int)} {g2 : (Int → Int)} {o : Int × Int × Int × (Int → Int) × (Int → Int)} (h : zf_LawReader_readCondition x1 f0 f1 f2 f4 g0 g1 g2 = some o) : zv_Fn z_TB z_cl z_KX zy_LawReader_readCondition zxm69 (78, 4680) [.inr 0, .inl x1] [.inl f0, .inl f1, .inl f2, .inr 2, .inl f4] [g0, g1, g2] none [.inl o.1, .inl o.2.1, .inl f2, .inr 2, .inl o.2.2.1] [g0, o.2.2.2.1, o.2.2.2.2] := (ztg_LawReader_readCondition 40).1 _ _ _ _ _ _ _ _ o h
def zf_LawReader_readPart (x1 : Int) (f0 : Int) (f1 : Int) (f2 : Int) (f4 : Int) (g0 : (Int → Int)) (g1 : (Int → Int)) (g2 : (Int → Int)) : Option (Int × Int × Int × (Int → Int) × (Int → Int)) := zg_LawReader_readCondition 40 1 x1 f0 f1 f2 f4 g0 g1 g2
theorem zt_LawReader_readPart {x1 : Int} {f0 : Int} {f1 : Int} {f2 : Int} {f4 : Int} {g0 : (Int → Int)} {g1 : (Int → Int)} {g2 : (Int → Int)} {o : Int × Int × Int × (Int → Int) × (Int → Int)} (h : zf_LawReader_readPart x1 f0 f1 f2 f4 g0 g1 g2 = some o) : zv_Fn z_TB z_cl z_KX zy_LawReader_readCondition zxm70 (78, 4680) [.inr 0, .inl x1] [.inl f0, .inl f1, .inl f2, .inr 2, .inl f4] [g0, g1, g2] none [.inl o.1, .inl o.2.1, .inl f2, .inr 2, .inl o.2.2.1] [g0, o.2.2.2.1, o.2.2.2.2] := (ztg_LawReader_readCondition 40).2.1 _ _ _ _ _ _ _ _ o h
def zf_LawReader_readPiece (x1 : Int) (f0 : Int) (f1 : Int) (f2 : Int) (f4 : Int) (g0 : (Int → Int)) (g1 : (Int → Int)) (g2 : (Int → Int)) : Option (Int × Int × Int × (Int → Int) × (Int → Int)) := zg_LawReader_readCondition 40 2 x1 f0 f1 f2 f4 g0 g1 g2
theorem zt_LawReader_readPiece {x1 : Int} {f0 : Int} {f1 : Int} {f2 : Int} {f4 : Int} {g0 : (Int → Int)} {g1 : (Int → Int)} {g2 : (Int → Int)} {o : Int × Int × Int × (Int → Int) × (Int → Int)} (h : zf_LawReader_readPiece x1 f0 f1 f2 f4 g0 g1 g2 = some o) : zv_Fn z_TB z_cl z_KX zy_LawReader_readCondition zxm71 (78, 4680) [.inr 0, .inl x1] [.inl f0, .inl f1, .inl f2, .inr 2, .inl f4] [g0, g1, g2] none [.inl o.1, .inl o.2.1, .inl f2, .inr 2, .inl o.2.2.1] [g0, o.2.2.2.1, o.2.2.2.2] := (ztg_LawReader_readCondition 40).2.2 _ _ _ _ _ _ _ _ o h
/-! Law_hasLetter (II)Z -/
-- names: 0 Law('arg', 0), 1 (0, 200)(0, 4, 0), 2 (0, 200)(0, 4, 1)
-- fields: f0 = 0.steps_; arrays: g0 = 1, g1 = 2; out: [('ret', None)]
abbrev zy_Law_hasLetter : zNL := (3, [(0, 4)], [(0, 4, 2, 0)], [(0, 4, 0, 1), (0, 4, 1, 2)], [(1, 0, 200, 0), (2, 0, 200, 1)])
theorem zyw_Law_hasLetter : zv_wf zy_Law_hasLetter = true := by decide +kernel
theorem zye_Law_hasLetter : zv_ek2 zy_Law_hasLetter = true := by decide +kernel
def zf_Law_hasLetter_l0_b (x2 : Int) (f0 : Int) (g0 : (Int → Int)) (g1 : (Int → Int)) (rec : Int → Option (((Unit) ⊕ (Int)))) (x3 : Int) : Option (((Unit) ⊕ (Int))) := if x3 < f0 then (cond (zi_ix x3 200) (if (g0 x3) = 1 then (if (g1 x3) = x2 then (some (.inr 1)) else (rec (zi_w (x3 + 1)))) else (rec (zi_w (x3 + 1)))) none) else (some (.inl ()))
def zf_Law_hasLetter_l0 (x2 : Int) (f0 : Int) (g0 : (Int → Int)) (g1 : (Int → Int)) : Nat → Int → Option (((Unit) ⊕ (Int)))
  | 0, _ => none
  | n + 1, x3 => zf_Law_hasLetter_l0_b x2 f0 g0 g1 (zf_Law_hasLetter_l0 x2 f0 g0 g1 n) x3
def zf_Law_hasLetter (x1 : Int) (x2 : Int) (f0 : Int) (g0 : (Int → Int)) (g1 : (Int → Int)) : Option (Int) := (zf_Law_hasLetter_l0 x2 f0 g0 g1 zi_fu x1).bind fun q5 => Sum.elim (fun e6 => (some 0)) (fun w7 => some w7) q5
theorem zd75_0 : decode zxm75.2.1 0 = .ok (.iload_n 1, 1) := by decide +kernel
theorem zd75_1 : decode zxm75.2.1 1 = .ok (.istore_n 3, 1) := by decide +kernel
theorem zd75_2 : decode zxm75.2.1 2 = .ok (.iload_n 3, 1) := by decide +kernel
theorem zd75_3 : decode zxm75.2.1 3 = .ok (.aload_n 0, 1) := by decide +kernel
theorem zd75_4 : decode zxm75.2.1 4 = .ok (.getfield 16, 3) := by decide +kernel
theorem zd75_7 : decode zxm75.2.1 7 = .ok (.if_icmp .ge 31, 3) := by decide +kernel
theorem zd75_10 : decode zxm75.2.1 10 = .ok (.aload_n 0, 1) := by decide +kernel
theorem zd75_11 : decode zxm75.2.1 11 = .ok (.getfield 9, 3) := by decide +kernel
theorem zd75_14 : decode zxm75.2.1 14 = .ok (.iload_n 3, 1) := by decide +kernel
theorem zd75_15 : decode zxm75.2.1 15 = .ok (.iaload, 1) := by decide +kernel
theorem zd75_16 : decode zxm75.2.1 16 = .ok (.iconst 1, 1) := by decide +kernel
theorem zd75_17 : decode zxm75.2.1 17 = .ok (.if_icmp .ne 15, 3) := by decide +kernel
theorem zd75_20 : decode zxm75.2.1 20 = .ok (.aload_n 0, 1) := by decide +kernel
theorem zd75_21 : decode zxm75.2.1 21 = .ok (.getfield 13, 3) := by decide +kernel
theorem zd75_24 : decode zxm75.2.1 24 = .ok (.iload_n 3, 1) := by decide +kernel
theorem zd75_25 : decode zxm75.2.1 25 = .ok (.iaload, 1) := by decide +kernel
theorem zd75_26 : decode zxm75.2.1 26 = .ok (.iload_n 2, 1) := by decide +kernel
theorem zd75_27 : decode zxm75.2.1 27 = .ok (.if_icmp .ne 5, 3) := by decide +kernel
theorem zd75_30 : decode zxm75.2.1 30 = .ok (.iconst 1, 1) := by decide +kernel
theorem zd75_31 : decode zxm75.2.1 31 = .ok (.ireturn, 1) := by decide +kernel
theorem zd75_32 : decode zxm75.2.1 32 = .ok (.iinc 3 1, 3) := by decide +kernel
theorem zd75_35 : decode zxm75.2.1 35 = .ok (.goto (-33), 3) := by decide +kernel
theorem zd75_38 : decode zxm75.2.1 38 = .ok (.iconst 0, 1) := by decide +kernel
theorem zd75_39 : decode zxm75.2.1 39 = .ok (.ireturn, 1) := by decide +kernel
theorem zt_Law_hasLetter {x1 : Int} {x2 : Int} {f0 : Int} {g0 : (Int → Int)} {g1 : (Int → Int)} {o : Int} (h : zf_Law_hasLetter x1 x2 f0 g0 g1 = some o) : zv_Fn z_TB z_cl z_KX zy_Law_hasLetter zxm75 (0, 0) [.inr 0, .inl x1, .inl x2] [.inl f0] [g0, g1] (some o) [.inl f0] [g0, g1] := zv_meth (K := (z_KF2, z_KC2, z_KL2, z_KT2, [], [], [], none)) (FT := z_FT) (MT := z_MT) (n := 3) zxp75 (z_ks2 _ (fun _ h => List.mem_cons_of_mem _ h) _ _ _ _ (fun j r h _ => by cases h)) (fun _ _ => zs_KX_p) zyw_Law_hasLetter (fun va F G h => by obtain ⟨rfl, _⟩ := h; rfl) (fun va F G h => by obtain ⟨rfl, _⟩ := h; rfl) rfl fun good va F G hB hret hvret hP => by
  obtain ⟨rfl, rfl, rfl⟩ := hP
  have l0 : ∀ (n : Nat) (x2 : Int) (x3 : Int) (q : ((Unit) ⊕ (Int))), zf_Law_hasLetter_l0 x2 f0 g0 g1 n x3 = some q → (Sum.elim (fun e : Unit => good 38 [.inr 1000, .inr 1000, .inr 1000, .inr 1000] [] [.inl f0] [g0, g1]) (fun w : Int => w = o) q) → good 2 [.inr 0, .inr 1000, .inl x2, .inl x3] [] [.inl f0] [g0, g1] := by
    intro n
    induction n with
    | zero => intro x2 x3 q h; exact absurd (show none = some q from h) (fun h => by cases h)
    | succ n ih =>
      intro x2 x3 q h hK
      replace h : zf_Law_hasLetter_l0_b x2 f0 g0 g1 (zf_Law_hasLetter_l0 x2 f0 g0 g1 n) x3 = some q := h
      unfold zf_Law_hasLetter_l0_b at h
      refine zv_ild hB zd75_2 rfl rfl ?_
      refine zv_ald hB zd75_3 rfl rfl rfl ?_
      refine zv_getf hB zd75_4 rfl rfl (fun _ _ => ?_)
      refine zv_cge hB zd75_7 rfl (fun hc1 => ?_) (fun hc1 => ?_)
      · rw [if_neg (Int.not_lt.mpr hc1)] at h
        have hq := Option.some.inj h
        subst hq
        refine zv_wk hB (L' := [.inr 1000, .inr 1000, .inr 1000, .inr 1000]) (F' := [.inl f0]) ⟨fun (h : zv_is (.inr 1000)) => (Nat.lt_irrefl 1000 h).elim, fun (h : zv_is (.inr 1000)) => (Nat.lt_irrefl 1000 h).elim, fun (h : zv_is (.inr 1000)) => (Nat.lt_irrefl 1000 h).elim, fun (h : zv_is (.inr 1000)) => (Nat.lt_irrefl 1000 h).elim, trivial⟩ ⟨fun _ => rfl, trivial⟩ ?_
        exact hK
      · rw [if_pos hc1] at h
        refine zv_ald hB zd75_10 rfl rfl rfl ?_
        refine zv_getr hB zd75_11 rfl ?_
        refine zv_ild hB zd75_14 rfl rfl ?_
        obtain ⟨c2, h⟩ := zi_if h
        refine zv_iald hB zd75_15 rfl rfl (zi_ix_ok c2).1 (zi_ix_ok c2).2 (fun _ _ => ?_)
        refine zv_con hB zd75_16 rfl ?_
        refine zv_cne hB zd75_17 rfl (fun hc3 => ?_) (fun hc3 => ?_)
        · rw [if_neg hc3] at h
          refine zv_iincw hB zd75_32 rfl rfl ?_
          refine zv_goto hB zd75_35 rfl ?_
          exact ih _ _ q h hK
        · rw [if_pos hc3] at h
          refine zv_ald hB zd75_20 rfl rfl rfl ?_
          refine zv_getr hB zd75_21 rfl ?_
          refine zv_ild hB zd75_24 rfl rfl ?_
          refine zv_iald hB zd75_25 rfl rfl (zi_ix_ok c2).1 (zi_ix_ok c2).2 (fun _ _ => ?_)
          refine zv_ild hB zd75_26 rfl rfl ?_
          refine zv_cne hB zd75_27 rfl (fun hc4 => ?_) (fun hc4 => ?_)
          · rw [if_neg hc4] at h
            refine zv_iincw hB zd75_32 rfl rfl ?_
            refine zv_goto hB zd75_35 rfl ?_
            exact ih _ _ q h hK
          · rw [if_pos hc4] at h
            refine zv_con hB zd75_30 rfl ?_
            have hw : 1 = o := zi_rk (Option.some.inj h) hK
            subst hw
            exact hret _ _ _ _ _ zd75_31 (by constructor <;> decide) ⟨rfl, rfl, rfl⟩
  unfold zf_Law_hasLetter at h
  refine zv_ild hB zd75_0 rfl rfl ?_
  refine zv_ist hB zd75_1 rfl rfl rfl ?_
  obtain ⟨q5, hq5, h⟩ := zi_bind h
  refine zv_wk hB (L' := [.inr 0, .inr 1000, .inl x2, .inl x1]) (F' := [.inl f0]) ⟨fun _ => rfl, fun (h : zv_is (.inr 1000)) => (Nat.lt_irrefl 1000 h).elim, fun _ => rfl, fun _ => rfl, trivial⟩ ⟨fun _ => rfl, trivial⟩ ?_
  refine l0 _ _ _ q5 hq5 ?_
  rcases q5 with e6 | w7
  · replace h := zi_sl h
    show good 38 [.inr 1000, .inr 1000, .inr 1000, .inr 1000] [] [.inl f0] [g0, g1]
    refine zv_con hB zd75_38 rfl ?_
    have hw := Option.some.inj h
    subst hw
    exact hret _ _ _ _ _ zd75_39 (by constructor <;> decide) ⟨rfl, rfl, rfl⟩
  · exact Option.some.inj h
end
section
/-! Methods as functions, and that they do what these do. -/
/-! Law_addClause (III)V -/
-- names: 0 Law('arg', 0), 1 (0, 14)(0, 4, 3), 2 (0, 14)(0, 4, 4), 3 (0, 14)(0, 4, 5), 4 (0, 14)(0, 4, 6), 5 (0, 200)(0, 4, 0), 6 (0, 200)(0, 4, 1)
-- fields: f0 = 0.clauses_, f1 = 0.steps_, f2 = 0.tellsLines_, f3 = 0.linesByPlace_, f4 = 0.tellsSeen_, f5 = 0.seenByPlace_; arrays: g0 = 1, g1 = 2, g2 = 3, g3 = 4, g4 = 5, g5 = 6; out: [('f', 0), ('f', 2), ('f', 3), ('f', 4), ('f', 5), ('g', 0), ('g', 1), ('g', 2), ('g', 3)]
abbrev zy_Law_addClause : zNL := (7, [(0, 4)], [(0, 4, 7, 0), (0, 4, 2, 1), (0, 4, 9, 2), (0, 4, 11, 3), (0, 4, 8, 4), (0, 4, 10, 5)], [(0, 4, 3, 1), (0, 4, 4, 2), (0, 4, 5, 3), (0, 4, 6, 4), (0, 4, 0, 5), (0, 4, 1, 6)], [(1, 0, 14, 0), (2, 0, 14, 1), (3, 0, 14, 2), (4, 0, 14, 3), (5, 0, 200, 4), (6, 0, 200, 5)])
theorem zyw_Law_addClause : zv_wf zy_Law_addClause = true := by decide +kernel
theorem zye_Law_addClause : zv_ek2 zy_Law_addClause = true := by decide +kernel
def zf_Law_addClause (x1 : Int) (x2 : Int) (x3 : Int) (f0 : Int) (f1 : Int) (f2 : Int) (f3 : Int) (f4 : Int) (f5 : Int) (g0 : (Int → Int)) (g1 : (Int → Int)) (g2 : (Int → Int)) (g3 : (Int → Int)) (g4 : (Int → Int)) (g5 : (Int → Int)) : Option (Int × Int × Int × Int × Int × (Int → Int) × (Int → Int) × (Int → Int) × (Int → Int)) := if f0 < 14 then (cond (zi_ix f0 14) (if x1 = 118 then (if f5 = 0 then ((zf_Law_hasLetter x3 10 f1 g4 g5).bind fun r11 => (if r11 = 0 then ((zf_Law_hasLetter x3 11 f1 g4 g5).bind fun r13 => (if r13 = 0 then ((zf_Law_hasLetter x3 12 f1 g4 g5).bind fun r15 => (if r15 = 0 then (some ((zi_w (f0 + 1)), f2, f3, 1, 0, (zv_up g0 f0 x1), (zv_up g1 f0 x2), (zv_up g2 f0 x3), (zv_up g3 f0 f1))) else (some ((zi_w (f0 + 1)), f2, f3, 1, 1, (zv_up g0 f0 x1), (zv_up g1 f0 x2), (zv_up g2 f0 x3), (zv_up g3 f0 f1))))) else (some ((zi_w (f0 + 1)), f2, f3, 1, 1, (zv_up g0 f0 x1), (zv_up g1 f0 x2), (zv_up g2 f0 x3), (zv_up g3 f0 f1))))) else (some ((zi_w (f0 + 1)), f2, f3, 1, 1, (zv_up g0 f0 x1), (zv_up g1 f0 x2), (zv_up g2 f0 x3), (zv_up g3 f0 f1))))) else (some ((zi_w (f0 + 1)), f2, f3, 1, 1, (zv_up g0 f0 x1), (zv_up g1 f0 x2), (zv_up g2 f0 x3), (zv_up g3 f0 f1)))) else (if x1 = 106 then (if f3 = 0 then ((zf_Law_hasLetter x3 10 f1 g4 g5).bind fun r6 => (if r6 = 0 then ((zf_Law_hasLetter x3 11 f1 g4 g5).bind fun r8 => (if r8 = 0 then (some ((zi_w (f0 + 1)), 1, 0, f4, f5, (zv_up g0 f0 x1), (zv_up g1 f0 x2), (zv_up g2 f0 x3), (zv_up g3 f0 f1))) else (some ((zi_w (f0 + 1)), 1, 1, f4, f5, (zv_up g0 f0 x1), (zv_up g1 f0 x2), (zv_up g2 f0 x3), (zv_up g3 f0 f1))))) else (some ((zi_w (f0 + 1)), 1, 1, f4, f5, (zv_up g0 f0 x1), (zv_up g1 f0 x2), (zv_up g2 f0 x3), (zv_up g3 f0 f1))))) else (some ((zi_w (f0 + 1)), 1, 1, f4, f5, (zv_up g0 f0 x1), (zv_up g1 f0 x2), (zv_up g2 f0 x3), (zv_up g3 f0 f1)))) else (some ((zi_w (f0 + 1)), f2, f3, f4, f5, (zv_up g0 f0 x1), (zv_up g1 f0 x2), (zv_up g2 f0 x3), (zv_up g3 f0 f1))))) none) else (some (f0, f2, f3, f4, f5, g0, g1, g2, g3))
theorem zd74_0 : decode zxm74.2.1 0 = .ok (.aload_n 0, 1) := by decide +kernel
theorem zd74_1 : decode zxm74.2.1 1 = .ok (.getfield 32, 3) := by decide +kernel
theorem zd74_4 : decode zxm74.2.1 4 = .ok (.bipush 14, 2) := by decide +kernel
theorem zd74_6 : decode zxm74.2.1 6 = .ok (.if_icmp .lt 4, 3) := by decide +kernel
theorem zd74_9 : decode zxm74.2.1 9 = .ok (.return_, 1) := by decide +kernel
theorem zd74_10 : decode zxm74.2.1 10 = .ok (.aload_n 0, 1) := by decide +kernel
theorem zd74_11 : decode zxm74.2.1 11 = .ok (.getfield 20, 3) := by decide +kernel
theorem zd74_14 : decode zxm74.2.1 14 = .ok (.aload_n 0, 1) := by decide +kernel
theorem zd74_15 : decode zxm74.2.1 15 = .ok (.getfield 32, 3) := by decide +kernel
theorem zd74_18 : decode zxm74.2.1 18 = .ok (.iload_n 1, 1) := by decide +kernel
theorem zd74_19 : decode zxm74.2.1 19 = .ok (.iastore, 1) := by decide +kernel
theorem zd74_20 : decode zxm74.2.1 20 = .ok (.aload_n 0, 1) := by decide +kernel
theorem zd74_21 : decode zxm74.2.1 21 = .ok (.getfield 23, 3) := by decide +kernel
theorem zd74_24 : decode zxm74.2.1 24 = .ok (.aload_n 0, 1) := by decide +kernel
theorem zd74_25 : decode zxm74.2.1 25 = .ok (.getfield 32, 3) := by decide +kernel
theorem zd74_28 : decode zxm74.2.1 28 = .ok (.iload_n 2, 1) := by decide +kernel
theorem zd74_29 : decode zxm74.2.1 29 = .ok (.iastore, 1) := by decide +kernel
theorem zd74_30 : decode zxm74.2.1 30 = .ok (.aload_n 0, 1) := by decide +kernel
theorem zd74_31 : decode zxm74.2.1 31 = .ok (.getfield 26, 3) := by decide +kernel
theorem zd74_34 : decode zxm74.2.1 34 = .ok (.aload_n 0, 1) := by decide +kernel
theorem zd74_35 : decode zxm74.2.1 35 = .ok (.getfield 32, 3) := by decide +kernel
theorem zd74_38 : decode zxm74.2.1 38 = .ok (.iload_n 3, 1) := by decide +kernel
theorem zd74_39 : decode zxm74.2.1 39 = .ok (.iastore, 1) := by decide +kernel
theorem zd74_40 : decode zxm74.2.1 40 = .ok (.aload_n 0, 1) := by decide +kernel
theorem zd74_41 : decode zxm74.2.1 41 = .ok (.getfield 29, 3) := by decide +kernel
theorem zd74_44 : decode zxm74.2.1 44 = .ok (.aload_n 0, 1) := by decide +kernel
theorem zd74_45 : decode zxm74.2.1 45 = .ok (.getfield 32, 3) := by decide +kernel
theorem zd74_48 : decode zxm74.2.1 48 = .ok (.aload_n 0, 1) := by decide +kernel
theorem zd74_49 : decode zxm74.2.1 49 = .ok (.getfield 16, 3) := by decide +kernel
theorem zd74_52 : decode zxm74.2.1 52 = .ok (.iastore, 1) := by decide +kernel
theorem zd74_53 : decode zxm74.2.1 53 = .ok (.aload_n 0, 1) := by decide +kernel
theorem zd74_54 : decode zxm74.2.1 54 = .ok (.dup, 1) := by decide +kernel
theorem zd74_55 : decode zxm74.2.1 55 = .ok (.getfield 32, 3) := by decide +kernel
theorem zd74_58 : decode zxm74.2.1 58 = .ok (.iconst 1, 1) := by decide +kernel
theorem zd74_59 : decode zxm74.2.1 59 = .ok (.iadd, 1) := by decide +kernel
theorem zd74_60 : decode zxm74.2.1 60 = .ok (.putfield 32, 3) := by decide +kernel
theorem zd74_63 : decode zxm74.2.1 63 = .ok (.iload_n 1, 1) := by decide +kernel
theorem zd74_64 : decode zxm74.2.1 64 = .ok (.bipush 118, 2) := by decide +kernel
theorem zd74_66 : decode zxm74.2.1 66 = .ok (.if_icmp .ne 57, 3) := by decide +kernel
theorem zd74_69 : decode zxm74.2.1 69 = .ok (.aload_n 0, 1) := by decide +kernel
theorem zd74_70 : decode zxm74.2.1 70 = .ok (.iconst 1, 1) := by decide +kernel
theorem zd74_71 : decode zxm74.2.1 71 = .ok (.putfield 35, 3) := by decide +kernel
theorem zd74_74 : decode zxm74.2.1 74 = .ok (.aload_n 0, 1) := by decide +kernel
theorem zd74_75 : decode zxm74.2.1 75 = .ok (.aload_n 0, 1) := by decide +kernel
theorem zd74_76 : decode zxm74.2.1 76 = .ok (.getfield 42, 3) := by decide +kernel
theorem zd74_79 : decode zxm74.2.1 79 = .ok (.ifCond .ne 33, 3) := by decide +kernel
theorem zd74_82 : decode zxm74.2.1 82 = .ok (.aload_n 0, 1) := by decide +kernel
theorem zd74_83 : decode zxm74.2.1 83 = .ok (.iload_n 3, 1) := by decide +kernel
theorem zd74_84 : decode zxm74.2.1 84 = .ok (.bipush 10, 2) := by decide +kernel
theorem zd74_86 : decode zxm74.2.1 86 = .ok (.invokevirtual 65, 3) := by decide +kernel
theorem zd74_89 : decode zxm74.2.1 89 = .ok (.ifCond .ne 23, 3) := by decide +kernel
theorem zd74_92 : decode zxm74.2.1 92 = .ok (.aload_n 0, 1) := by decide +kernel
theorem zd74_93 : decode zxm74.2.1 93 = .ok (.iload_n 3, 1) := by decide +kernel
theorem zd74_94 : decode zxm74.2.1 94 = .ok (.bipush 11, 2) := by decide +kernel
theorem zd74_96 : decode zxm74.2.1 96 = .ok (.invokevirtual 65, 3) := by decide +kernel
theorem zd74_99 : decode zxm74.2.1 99 = .ok (.ifCond .ne 13, 3) := by decide +kernel
theorem zd74_102 : decode zxm74.2.1 102 = .ok (.aload_n 0, 1) := by decide +kernel
theorem zd74_103 : decode zxm74.2.1 103 = .ok (.iload_n 3, 1) := by decide +kernel
theorem zd74_104 : decode zxm74.2.1 104 = .ok (.bipush 12, 2) := by decide +kernel
theorem zd74_106 : decode zxm74.2.1 106 = .ok (.invokevirtual 65, 3) := by decide +kernel
theorem zd74_109 : decode zxm74.2.1 109 = .ok (.ifCond .eq 7, 3) := by decide +kernel
theorem zd74_112 : decode zxm74.2.1 112 = .ok (.iconst 1, 1) := by decide +kernel
theorem zd74_113 : decode zxm74.2.1 113 = .ok (.goto 4, 3) := by decide +kernel
theorem zd74_116 : decode zxm74.2.1 116 = .ok (.iconst 0, 1) := by decide +kernel
theorem zd74_117 : decode zxm74.2.1 117 = .ok (.putfield 42, 3) := by decide +kernel
theorem zd74_120 : decode zxm74.2.1 120 = .ok (.goto 50, 3) := by decide +kernel
theorem zd74_123 : decode zxm74.2.1 123 = .ok (.iload_n 1, 1) := by decide +kernel
theorem zd74_124 : decode zxm74.2.1 124 = .ok (.bipush 106, 2) := by decide +kernel
theorem zd74_126 : decode zxm74.2.1 126 = .ok (.if_icmp .ne 44, 3) := by decide +kernel
theorem zd74_129 : decode zxm74.2.1 129 = .ok (.aload_n 0, 1) := by decide +kernel
theorem zd74_130 : decode zxm74.2.1 130 = .ok (.iconst 1, 1) := by decide +kernel
theorem zd74_131 : decode zxm74.2.1 131 = .ok (.putfield 39, 3) := by decide +kernel
theorem zd74_134 : decode zxm74.2.1 134 = .ok (.aload_n 0, 1) := by decide +kernel
theorem zd74_135 : decode zxm74.2.1 135 = .ok (.aload_n 0, 1) := by decide +kernel
theorem zd74_136 : decode zxm74.2.1 136 = .ok (.getfield 45, 3) := by decide +kernel
theorem zd74_139 : decode zxm74.2.1 139 = .ok (.ifCond .ne 23, 3) := by decide +kernel
theorem zd74_142 : decode zxm74.2.1 142 = .ok (.aload_n 0, 1) := by decide +kernel
theorem zd74_143 : decode zxm74.2.1 143 = .ok (.iload_n 3, 1) := by decide +kernel
theorem zd74_144 : decode zxm74.2.1 144 = .ok (.bipush 10, 2) := by decide +kernel
theorem zd74_146 : decode zxm74.2.1 146 = .ok (.invokevirtual 65, 3) := by decide +kernel
theorem zd74_149 : decode zxm74.2.1 149 = .ok (.ifCond .ne 13, 3) := by decide +kernel
theorem zd74_152 : decode zxm74.2.1 152 = .ok (.aload_n 0, 1) := by decide +kernel
theorem zd74_153 : decode zxm74.2.1 153 = .ok (.iload_n 3, 1) := by decide +kernel
theorem zd74_154 : decode zxm74.2.1 154 = .ok (.bipush 11, 2) := by decide +kernel
theorem zd74_156 : decode zxm74.2.1 156 = .ok (.invokevirtual 65, 3) := by decide +kernel
theorem zd74_159 : decode zxm74.2.1 159 = .ok (.ifCond .eq 7, 3) := by decide +kernel
theorem zd74_162 : decode zxm74.2.1 162 = .ok (.iconst 1, 1) := by decide +kernel
theorem zd74_163 : decode zxm74.2.1 163 = .ok (.goto 4, 3) := by decide +kernel
theorem zd74_166 : decode zxm74.2.1 166 = .ok (.iconst 0, 1) := by decide +kernel
theorem zd74_167 : decode zxm74.2.1 167 = .ok (.putfield 45, 3) := by decide +kernel
theorem zd74_170 : decode zxm74.2.1 170 = .ok (.return_, 1) := by decide +kernel
theorem zt_Law_addClause {x1 : Int} {x2 : Int} {x3 : Int} {f0 : Int} {f1 : Int} {f2 : Int} {f3 : Int} {f4 : Int} {f5 : Int} {g0 : (Int → Int)} {g1 : (Int → Int)} {g2 : (Int → Int)} {g3 : (Int → Int)} {g4 : (Int → Int)} {g5 : (Int → Int)} {o : Int × Int × Int × Int × Int × (Int → Int) × (Int → Int) × (Int → Int) × (Int → Int)} (h : zf_Law_addClause x1 x2 x3 f0 f1 f2 f3 f4 f5 g0 g1 g2 g3 g4 g5 = some o) : zv_Fn z_TB z_cl z_KX zy_Law_addClause zxm74 (1, 60) [.inr 0, .inl x1, .inl x2, .inl x3] [.inl f0, .inl f1, .inl f2, .inl f3, .inl f4, .inl f5] [g0, g1, g2, g3, g4, g5] none [.inl o.1, .inl f1, .inl o.2.1, .inl o.2.2.1, .inl o.2.2.2.1, .inl o.2.2.2.2.1] [o.2.2.2.2.2.1, o.2.2.2.2.2.2.1, o.2.2.2.2.2.2.2.1, o.2.2.2.2.2.2.2.2, g4, g5] := zv_meth (K := (z_KF2, z_KC2, z_KL2, z_KT2, [], [], [], none)) (FT := z_FT) (MT := z_MT) (n := 4) zxp74 (z_ks2 _ (fun _ h => List.mem_cons_of_mem _ h) _ _ _ _ (fun j r h _ => by cases h)) (fun _ _ => zs_KX_p) zyw_Law_addClause (fun va F G h => by obtain ⟨rfl, _⟩ := h; rfl) (fun va F G h => by obtain ⟨rfl, _⟩ := h; rfl) rfl fun good va F G hB hret hvret hP => by
  obtain ⟨rfl, rfl, rfl⟩ := hP
  unfold zf_Law_addClause at h
  refine zv_ald hB zd74_0 rfl rfl rfl ?_
  refine zv_getf hB zd74_1 rfl rfl (fun _ _ => ?_)
  refine zv_con hB zd74_4 rfl ?_
  refine zv_clt hB zd74_6 rfl (fun hc1 => ?_) (fun hc1 => ?_)
  · rw [if_pos hc1] at h
    refine zv_ald hB zd74_10 rfl rfl rfl ?_
    refine zv_getr hB zd74_11 rfl ?_
    refine zv_ald hB zd74_14 rfl rfl rfl ?_
    refine zv_getf hB zd74_15 rfl rfl (fun _ _ => ?_)
    refine zv_ild hB zd74_18 rfl rfl ?_
    obtain ⟨c2, h⟩ := zi_if h
    refine zv_iast hB zd74_19 rfl rfl (zi_ix_ok c2).1 (zi_ix_ok c2).2 ?_
    refine zv_ald hB zd74_20 rfl rfl rfl ?_
    refine zv_getr hB zd74_21 rfl ?_
    refine zv_ald hB zd74_24 rfl rfl rfl ?_
    refine zv_getf hB zd74_25 rfl rfl (fun _ _ => ?_)
    refine zv_ild hB zd74_28 rfl rfl ?_
    refine zv_iast hB zd74_29 rfl rfl (zi_ix_ok c2).1 (zi_ix_ok c2).2 ?_
    refine zv_ald hB zd74_30 rfl rfl rfl ?_
    refine zv_getr hB zd74_31 rfl ?_
    refine zv_ald hB zd74_34 rfl rfl rfl ?_
    refine zv_getf hB zd74_35 rfl rfl (fun _ _ => ?_)
    refine zv_ild hB zd74_38 rfl rfl ?_
    refine zv_iast hB zd74_39 rfl rfl (zi_ix_ok c2).1 (zi_ix_ok c2).2 ?_
    refine zv_ald hB zd74_40 rfl rfl rfl ?_
    refine zv_getr hB zd74_41 rfl ?_
    refine zv_ald hB zd74_44 rfl rfl rfl ?_
    refine zv_getf hB zd74_45 rfl rfl (fun _ _ => ?_)
    refine zv_ald hB zd74_48 rfl rfl rfl ?_
    refine zv_getf hB zd74_49 rfl rfl (fun _ _ => ?_)
    refine zv_iast hB zd74_52 rfl rfl (zi_ix_ok c2).1 (zi_ix_ok c2).2 ?_
    refine zv_ald hB zd74_53 rfl rfl rfl ?_
    refine zv_dup hB zd74_54 rfl ?_
    refine zv_getf hB zd74_55 rfl rfl (fun _ _ => ?_)
    refine zv_con hB zd74_58 rfl ?_
    refine zv_addw hB zd74_59 ?_
    refine zv_putf hB zd74_60 rfl rfl (fun h => by cases h) rfl ?_
    refine zv_ild hB zd74_63 rfl rfl ?_
    refine zv_con hB zd74_64 rfl ?_
    refine zv_cne hB zd74_66 rfl (fun hc3 => ?_) (fun hc3 => ?_)
    · rw [if_neg hc3] at h
      refine zv_ild hB zd74_123 rfl rfl ?_
      refine zv_con hB zd74_124 rfl ?_
      refine zv_cne hB zd74_126 rfl (fun hc4 => ?_) (fun hc4 => ?_)
      · rw [if_neg hc4] at h
        have hw := Option.some.inj h
        subst hw
        exact hvret _ _ _ _ zd74_170 trivial ⟨rfl, rfl, rfl⟩
      · rw [if_pos hc4] at h
        refine zv_ald hB zd74_129 rfl rfl rfl ?_
        refine zv_con hB zd74_130 rfl ?_
        refine zv_putf hB zd74_131 rfl rfl (fun _ => by decide) rfl ?_
        refine zv_ald hB zd74_134 rfl rfl rfl ?_
        refine zv_ald hB zd74_135 rfl rfl rfl ?_
        refine zv_getf hB zd74_136 rfl rfl (fun _ _ => ?_)
        refine zv_zne hB zd74_139 rfl (fun hc5 => ?_) (fun hc5 => ?_)
        · rw [if_neg hc5] at h
          refine zv_con hB zd74_162 rfl ?_
          refine zv_goto hB zd74_163 rfl ?_
          refine zv_putf hB zd74_167 rfl rfl (fun _ => by decide) rfl ?_
          have hw := Option.some.inj h
          subst hw
          exact hvret _ _ _ _ zd74_170 trivial ⟨rfl, rfl, rfl⟩
        · rw [if_pos hc5] at h
          refine zv_ald hB zd74_142 rfl rfl rfl ?_
          refine zv_ild hB zd74_143 rfl rfl ?_
          refine zv_con hB zd74_144 rfl ?_
          obtain ⟨r6, hr6, h⟩ := zi_bind h
          refine zv_cv hB (zv_emq (va2 := [.inr 0, .inl x3, .inl 10]) (F := [.inl (zi_w (f0 + 1)), .inl f1, .inl 1, .inl f3, .inl f4, .inl f5]) (F' := [.inl (zi_w (f0 + 1)), .inl f1, .inl 1, .inl f3, .inl f4, .inl f5]) (G := [(zv_up g0 f0 x1), (zv_up g1 f0 x2), (zv_up g2 f0 x3), (zv_up g3 f0 f1), g4, g5]) (G' := [(zv_up g0 f0 x1), (zv_up g1 f0 x2), (zv_up g2 f0 x3), (zv_up g3 f0 f1), g4, g5]) (ρ := [0, 5, 6]) (φ := [1]) (ψ := [4, 5]) [none, some 0, none, none, none, none] [none, none, none, none, some 0, some 1] zyw_Law_hasLetter zyw_Law_addClause zye_Law_addClause (by decide +kernel) (zt_Law_hasLetter hr6) ⟨⟨_, rfl, fun _ => rfl⟩, trivial⟩ ⟨rfl, rfl, trivial⟩ rfl rfl rfl rfl rfl rfl rfl) zd74_146 zxt75 rfl (by decide) (by decide) rfl ?_
          refine zv_zne hB zd74_149 rfl (fun hc7 => ?_) (fun hc7 => ?_)
          · rw [if_neg hc7] at h
            refine zv_con hB zd74_162 rfl ?_
            refine zv_goto hB zd74_163 rfl ?_
            refine zv_putf hB zd74_167 rfl rfl (fun _ => by decide) rfl ?_
            have hw := Option.some.inj h
            subst hw
            exact hvret _ _ _ _ zd74_170 trivial ⟨rfl, rfl, rfl⟩
          · rw [if_pos hc7] at h
            refine zv_ald hB zd74_152 rfl rfl rfl ?_
            refine zv_ild hB zd74_153 rfl rfl ?_
            refine zv_con hB zd74_154 rfl ?_
            obtain ⟨r8, hr8, h⟩ := zi_bind h
            refine zv_cv hB (zv_emq (va2 := [.inr 0, .inl x3, .inl 11]) (F := [.inl (zi_w (f0 + 1)), .inl f1, .inl 1, .inl f3, .inl f4, .inl f5]) (F' := [.inl (zi_w (f0 + 1)), .inl f1, .inl 1, .inl f3, .inl f4, .inl f5]) (G := [(zv_up g0 f0 x1), (zv_up g1 f0 x2), (zv_up g2 f0 x3), (zv_up g3 f0 f1), g4, g5]) (G' := [(zv_up g0 f0 x1), (zv_up g1 f0 x2), (zv_up g2 f0 x3), (zv_up g3 f0 f1), g4, g5]) (ρ := [0, 5, 6]) (φ := [1]) (ψ := [4, 5]) [none, some 0, none, none, none, none] [none, none, none, none, some 0, some 1] zyw_Law_hasLetter zyw_Law_addClause zye_Law_addClause (by decide +kernel) (zt_Law_hasLetter hr8) ⟨⟨_, rfl, fun _ => rfl⟩, trivial⟩ ⟨rfl, rfl, trivial⟩ rfl rfl rfl rfl rfl rfl rfl) zd74_156 zxt75 rfl (by decide) (by decide) rfl ?_
            refine zv_zeq hB zd74_159 rfl (fun hc9 => ?_) (fun hc9 => ?_)
            · rw [if_pos hc9] at h
              refine zv_con hB zd74_166 rfl ?_
              refine zv_putf hB zd74_167 rfl rfl (fun _ => by decide) rfl ?_
              have hw := Option.some.inj h
              subst hw
              exact hvret _ _ _ _ zd74_170 trivial ⟨rfl, rfl, rfl⟩
            · rw [if_neg hc9] at h
              refine zv_con hB zd74_162 rfl ?_
              refine zv_goto hB zd74_163 rfl ?_
              refine zv_putf hB zd74_167 rfl rfl (fun _ => by decide) rfl ?_
              have hw := Option.some.inj h
              subst hw
              exact hvret _ _ _ _ zd74_170 trivial ⟨rfl, rfl, rfl⟩
    · rw [if_pos hc3] at h
      refine zv_ald hB zd74_69 rfl rfl rfl ?_
      refine zv_con hB zd74_70 rfl ?_
      refine zv_putf hB zd74_71 rfl rfl (fun _ => by decide) rfl ?_
      refine zv_ald hB zd74_74 rfl rfl rfl ?_
      refine zv_ald hB zd74_75 rfl rfl rfl ?_
      refine zv_getf hB zd74_76 rfl rfl (fun _ _ => ?_)
      refine zv_zne hB zd74_79 rfl (fun hc10 => ?_) (fun hc10 => ?_)
      · rw [if_neg hc10] at h
        refine zv_con hB zd74_112 rfl ?_
        refine zv_goto hB zd74_113 rfl ?_
        refine zv_putf hB zd74_117 rfl rfl (fun _ => by decide) rfl ?_
        refine zv_goto hB zd74_120 rfl ?_
        have hw := Option.some.inj h
        subst hw
        exact hvret _ _ _ _ zd74_170 trivial ⟨rfl, rfl, rfl⟩
      · rw [if_pos hc10] at h
        refine zv_ald hB zd74_82 rfl rfl rfl ?_
        refine zv_ild hB zd74_83 rfl rfl ?_
        refine zv_con hB zd74_84 rfl ?_
        obtain ⟨r11, hr11, h⟩ := zi_bind h
        refine zv_cv hB (zv_emq (va2 := [.inr 0, .inl x3, .inl 10]) (F := [.inl (zi_w (f0 + 1)), .inl f1, .inl f2, .inl f3, .inl 1, .inl f5]) (F' := [.inl (zi_w (f0 + 1)), .inl f1, .inl f2, .inl f3, .inl 1, .inl f5]) (G := [(zv_up g0 f0 x1), (zv_up g1 f0 x2), (zv_up g2 f0 x3), (zv_up g3 f0 f1), g4, g5]) (G' := [(zv_up g0 f0 x1), (zv_up g1 f0 x2), (zv_up g2 f0 x3), (zv_up g3 f0 f1), g4, g5]) (ρ := [0, 5, 6]) (φ := [1]) (ψ := [4, 5]) [none, some 0, none, none, none, none] [none, none, none, none, some 0, some 1] zyw_Law_hasLetter zyw_Law_addClause zye_Law_addClause (by decide +kernel) (zt_Law_hasLetter hr11) ⟨⟨_, rfl, fun _ => rfl⟩, trivial⟩ ⟨rfl, rfl, trivial⟩ rfl rfl rfl rfl rfl rfl rfl) zd74_86 zxt75 rfl (by decide) (by decide) rfl ?_
        refine zv_zne hB zd74_89 rfl (fun hc12 => ?_) (fun hc12 => ?_)
        · rw [if_neg hc12] at h
          refine zv_con hB zd74_112 rfl ?_
          refine zv_goto hB zd74_113 rfl ?_
          refine zv_putf hB zd74_117 rfl rfl (fun _ => by decide) rfl ?_
          refine zv_goto hB zd74_120 rfl ?_
          have hw := Option.some.inj h
          subst hw
          exact hvret _ _ _ _ zd74_170 trivial ⟨rfl, rfl, rfl⟩
        · rw [if_pos hc12] at h
          refine zv_ald hB zd74_92 rfl rfl rfl ?_
          refine zv_ild hB zd74_93 rfl rfl ?_
          refine zv_con hB zd74_94 rfl ?_
          obtain ⟨r13, hr13, h⟩ := zi_bind h
          refine zv_cv hB (zv_emq (va2 := [.inr 0, .inl x3, .inl 11]) (F := [.inl (zi_w (f0 + 1)), .inl f1, .inl f2, .inl f3, .inl 1, .inl f5]) (F' := [.inl (zi_w (f0 + 1)), .inl f1, .inl f2, .inl f3, .inl 1, .inl f5]) (G := [(zv_up g0 f0 x1), (zv_up g1 f0 x2), (zv_up g2 f0 x3), (zv_up g3 f0 f1), g4, g5]) (G' := [(zv_up g0 f0 x1), (zv_up g1 f0 x2), (zv_up g2 f0 x3), (zv_up g3 f0 f1), g4, g5]) (ρ := [0, 5, 6]) (φ := [1]) (ψ := [4, 5]) [none, some 0, none, none, none, none] [none, none, none, none, some 0, some 1] zyw_Law_hasLetter zyw_Law_addClause zye_Law_addClause (by decide +kernel) (zt_Law_hasLetter hr13) ⟨⟨_, rfl, fun _ => rfl⟩, trivial⟩ ⟨rfl, rfl, trivial⟩ rfl rfl rfl rfl rfl rfl rfl) zd74_96 zxt75 rfl (by decide) (by decide) rfl ?_
          refine zv_zne hB zd74_99 rfl (fun hc14 => ?_) (fun hc14 => ?_)
          · rw [if_neg hc14] at h
            refine zv_con hB zd74_112 rfl ?_
            refine zv_goto hB zd74_113 rfl ?_
            refine zv_putf hB zd74_117 rfl rfl (fun _ => by decide) rfl ?_
            refine zv_goto hB zd74_120 rfl ?_
            have hw := Option.some.inj h
            subst hw
            exact hvret _ _ _ _ zd74_170 trivial ⟨rfl, rfl, rfl⟩
          · rw [if_pos hc14] at h
            refine zv_ald hB zd74_102 rfl rfl rfl ?_
            refine zv_ild hB zd74_103 rfl rfl ?_
            refine zv_con hB zd74_104 rfl ?_
            obtain ⟨r15, hr15, h⟩ := zi_bind h
            refine zv_cv hB (zv_emq (va2 := [.inr 0, .inl x3, .inl 12]) (F := [.inl (zi_w (f0 + 1)), .inl f1, .inl f2, .inl f3, .inl 1, .inl f5]) (F' := [.inl (zi_w (f0 + 1)), .inl f1, .inl f2, .inl f3, .inl 1, .inl f5]) (G := [(zv_up g0 f0 x1), (zv_up g1 f0 x2), (zv_up g2 f0 x3), (zv_up g3 f0 f1), g4, g5]) (G' := [(zv_up g0 f0 x1), (zv_up g1 f0 x2), (zv_up g2 f0 x3), (zv_up g3 f0 f1), g4, g5]) (ρ := [0, 5, 6]) (φ := [1]) (ψ := [4, 5]) [none, some 0, none, none, none, none] [none, none, none, none, some 0, some 1] zyw_Law_hasLetter zyw_Law_addClause zye_Law_addClause (by decide +kernel) (zt_Law_hasLetter hr15) ⟨⟨_, rfl, fun _ => rfl⟩, trivial⟩ ⟨rfl, rfl, trivial⟩ rfl rfl rfl rfl rfl rfl rfl) zd74_106 zxt75 rfl (by decide) (by decide) rfl ?_
            refine zv_zeq hB zd74_109 rfl (fun hc16 => ?_) (fun hc16 => ?_)
            · rw [if_pos hc16] at h
              refine zv_con hB zd74_116 rfl ?_
              refine zv_putf hB zd74_117 rfl rfl (fun _ => by decide) rfl ?_
              refine zv_goto hB zd74_120 rfl ?_
              have hw := Option.some.inj h
              subst hw
              exact hvret _ _ _ _ zd74_170 trivial ⟨rfl, rfl, rfl⟩
            · rw [if_neg hc16] at h
              refine zv_con hB zd74_112 rfl ?_
              refine zv_goto hB zd74_113 rfl ?_
              refine zv_putf hB zd74_117 rfl rfl (fun _ => by decide) rfl ?_
              refine zv_goto hB zd74_120 rfl ?_
              have hw := Option.some.inj h
              subst hw
              exact hvret _ _ _ _ zd74_170 trivial ⟨rfl, rfl, rfl⟩
  · rw [if_neg (Int.not_lt.mpr hc1)] at h
    have hw := Option.some.inj h
    subst hw
    exact hvret _ _ _ _ zd74_9 trivial ⟨rfl, rfl, rfl⟩
end
section
/-! Methods as functions, and that they do what these do. -/
/-! LawReader_readClause ()V -/
-- names: 0 LawReader('arg', 0), 1 (0, 220)(0, 5, 0), 2 Law(0, 5, 4), 3 (0, 200)(2, 4, 0), 4 (0, 200)(2, 4, 1), 5 (0, 14)(2, 4, 3), 6 (0, 14)(2, 4, 4), 7 (0, 14)(2, 4, 5), 8 (0, 14)(2, 4, 6)
-- fields: f0 = 0.fault_, f1 = 0.at_, f2 = 0.length_, f3 = 0.law_, f4 = 2.clauses_, f5 = 2.steps_, f6 = 2.tellsLines_, f7 = 2.linesByPlace_, f8 = 2.tellsSeen_, f9 = 2.seenByPlace_; arrays: g0 = 1, g1 = 3, g2 = 4, g3 = 5, g4 = 6, g5 = 7, g6 = 8; out: [('f', 0), ('f', 1), ('f', 4), ('f', 5), ('f', 6), ('f', 7), ('f', 8), ('f', 9), ('g', 1), ('g', 2), ('g', 3), ('g', 4), ('g', 5), ('g', 6)]
abbrev zy_LawReader_readClause : zNL := (9, [(0, 5), (2, 4)], [(0, 5, 3, 0), (0, 5, 2, 1), (0, 5, 1, 2), (0, 5, 4, 3), (2, 4, 7, 4), (2, 4, 2, 5), (2, 4, 9, 6), (2, 4, 11, 7), (2, 4, 8, 8), (2, 4, 10, 9)], [(0, 5, 0, 1), (2, 4, 0, 3), (2, 4, 1, 4), (2, 4, 3, 5), (2, 4, 4, 6), (2, 4, 5, 7), (2, 4, 6, 8)], [(1, 0, 220, 0), (3, 0, 200, 1), (4, 0, 200, 2), (5, 0, 14, 3), (6, 0, 14, 4), (7, 0, 14, 5), (8, 0, 14, 6)])
theorem zyw_LawReader_readClause : zv_wf zy_LawReader_readClause = true := by decide +kernel
theorem zye_LawReader_readClause : zv_ek2 zy_LawReader_readClause = true := by decide +kernel
def zf_LawReader_readClause (f0 : Int) (f1 : Int) (f2 : Int) (f4 : Int) (f5 : Int) (f6 : Int) (f7 : Int) (f8 : Int) (f9 : Int) (g0 : (Int → Int)) (g1 : (Int → Int)) (g2 : (Int → Int)) (g3 : (Int → Int)) (g4 : (Int → Int)) (g5 : (Int → Int)) (g6 : (Int → Int)) : Option (Int × Int × Int × Int × Int × Int × Int × Int × (Int → Int) × (Int → Int) × (Int → Int) × (Int → Int) × (Int → Int) × (Int → Int)) := if f0 = 0 then ((zf_LawReader_peek f1 f2 g0).bind fun r2 => (if r2 = 119 then (if f4 = 14 then ((zf_LawReader_fail 4 f0 f1).bind fun r12 => (some (r12, f1, f4, f5, f6, f7, f8, f9, g1, g2, g3, g4, g5, g6))) else ((zf_LawReader_readSum 0 f0 (zi_w (f1 + 1)) f2 f5 g0 g1 g2).bind fun r7 => ((zf_LawReader_skip 40 r7.1 r7.2.1 f2 g0).bind fun r8 => ((zf_LawReader_readCondition 1 r8.1 r8.2 f2 r7.2.2.1 g0 r7.2.2.2.1 r7.2.2.2.2).bind fun r9 => ((zf_LawReader_skip 41 r9.1 r9.2.1 f2 g0).bind fun r10 => ((zf_Law_addClause r2 f5 r7.2.2.1 f4 r9.2.2.1 f6 f7 f8 f9 g3 g4 g5 g6 r9.2.2.2.1 r9.2.2.2.2).bind fun r11 => (some (r10.1, r10.2, r11.1, r9.2.2.1, r11.2.1, r11.2.2.1, r11.2.2.2.1, r11.2.2.2.2.1, r9.2.2.2.1, r9.2.2.2.2, r11.2.2.2.2.2.1, r11.2.2.2.2.2.2.1, r11.2.2.2.2.2.2.2.1, r11.2.2.2.2.2.2.2.2)))))))) else (if r2 = 103 then (if f4 = 14 then ((zf_LawReader_fail 4 f0 f1).bind fun r22 => (some (r22, f1, f4, f5, f6, f7, f8, f9, g1, g2, g3, g4, g5, g6))) else ((zf_LawReader_readSum 0 f0 (zi_w (f1 + 1)) f2 f5 g0 g1 g2).bind fun r17 => ((zf_LawReader_skip 40 r17.1 r17.2.1 f2 g0).bind fun r18 => ((zf_LawReader_readCondition 1 r18.1 r18.2 f2 r17.2.2.1 g0 r17.2.2.2.1 r17.2.2.2.2).bind fun r19 => ((zf_LawReader_skip 41 r19.1 r19.2.1 f2 g0).bind fun r20 => ((zf_Law_addClause r2 f5 r17.2.2.1 f4 r19.2.2.1 f6 f7 f8 f9 g3 g4 g5 g6 r19.2.2.2.1 r19.2.2.2.2).bind fun r21 => (some (r20.1, r20.2, r21.1, r19.2.2.1, r21.2.1, r21.2.2.1, r21.2.2.2.1, r21.2.2.2.2.1, r19.2.2.2.1, r19.2.2.2.2, r21.2.2.2.2.2.1, r21.2.2.2.2.2.2.1, r21.2.2.2.2.2.2.2.1, r21.2.2.2.2.2.2.2.2)))))))) else (if r2 = 113 then (if f4 = 14 then ((zf_LawReader_fail 4 f0 f1).bind fun r50 => (some (r50, f1, f4, f5, f6, f7, f8, f9, g1, g2, g3, g4, g5, g6))) else ((zf_LawReader_readSum 0 f0 (zi_w (f1 + 1)) f2 f5 g0 g1 g2).bind fun r45 => ((zf_LawReader_skip 40 r45.1 r45.2.1 f2 g0).bind fun r46 => ((zf_LawReader_readCondition 1 r46.1 r46.2 f2 r45.2.2.1 g0 r45.2.2.2.1 r45.2.2.2.2).bind fun r47 => ((zf_LawReader_skip 41 r47.1 r47.2.1 f2 g0).bind fun r48 => ((zf_Law_addClause r2 f5 r45.2.2.1 f4 r47.2.2.1 f6 f7 f8 f9 g3 g4 g5 g6 r47.2.2.2.1 r47.2.2.2.2).bind fun r49 => (some (r48.1, r48.2, r49.1, r47.2.2.1, r49.2.1, r49.2.2.1, r49.2.2.2.1, r49.2.2.2.2.1, r47.2.2.2.1, r47.2.2.2.2, r49.2.2.2.2.2.1, r49.2.2.2.2.2.2.1, r49.2.2.2.2.2.2.2.1, r49.2.2.2.2.2.2.2.2)))))))) else (if r2 = 118 then (if f4 = 14 then ((zf_LawReader_fail 4 f0 f1).bind fun r32 => (some (r32, f1, f4, f5, f6, f7, f8, f9, g1, g2, g3, g4, g5, g6))) else ((zf_LawReader_skip 40 f0 (zi_w (f1 + 1)) f2 g0).bind fun r28 => ((zf_LawReader_readCondition 1 r28.1 r28.2 f2 f5 g0 g1 g2).bind fun r29 => ((zf_LawReader_skip 41 r29.1 r29.2.1 f2 g0).bind fun r30 => ((zf_Law_addClause r2 f5 f5 f4 r29.2.2.1 f6 f7 f8 f9 g3 g4 g5 g6 r29.2.2.2.1 r29.2.2.2.2).bind fun r31 => (some (r30.1, r30.2, r31.1, r29.2.2.1, r31.2.1, r31.2.2.1, r31.2.2.2.1, r31.2.2.2.2.1, r29.2.2.2.1, r29.2.2.2.2, r31.2.2.2.2.2.1, r31.2.2.2.2.2.2.1, r31.2.2.2.2.2.2.2.1, r31.2.2.2.2.2.2.2.2))))))) else (if r2 = 106 then (if f4 = 14 then ((zf_LawReader_fail 4 f0 f1).bind fun r40 => (some (r40, f1, f4, f5, f6, f7, f8, f9, g1, g2, g3, g4, g5, g6))) else ((zf_LawReader_skip 40 f0 (zi_w (f1 + 1)) f2 g0).bind fun r36 => ((zf_LawReader_readCondition 1 r36.1 r36.2 f2 f5 g0 g1 g2).bind fun r37 => ((zf_LawReader_skip 41 r37.1 r37.2.1 f2 g0).bind fun r38 => ((zf_Law_addClause r2 f5 f5 f4 r37.2.2.1 f6 f7 f8 f9 g3 g4 g5 g6 r37.2.2.2.1 r37.2.2.2.2).bind fun r39 => (some (r38.1, r38.2, r39.1, r37.2.2.1, r39.2.1, r39.2.2.1, r39.2.2.2.1, r39.2.2.2.2.1, r37.2.2.2.1, r37.2.2.2.2, r39.2.2.2.2.2.1, r39.2.2.2.2.2.2.1, r39.2.2.2.2.2.2.2.1, r39.2.2.2.2.2.2.2.2))))))) else ((zf_LawReader_fail 1 f0 f1).bind fun r41 => (some (r41, f1, f4, f5, f6, f7, f8, f9, g1, g2, g3, g4, g5, g6))))))))) else (some (f0, f1, f4, f5, f6, f7, f8, f9, g1, g2, g3, g4, g5, g6))
theorem zd39_0 : decode zxm39.2.1 0 = .ok (.aload_n 0, 1) := by decide +kernel
theorem zd39_1 : decode zxm39.2.1 1 = .ok (.getfield 18, 3) := by decide +kernel
theorem zd39_4 : decode zxm39.2.1 4 = .ok (.ifCond .eq 4, 3) := by decide +kernel
theorem zd39_7 : decode zxm39.2.1 7 = .ok (.return_, 1) := by decide +kernel
theorem zd39_8 : decode zxm39.2.1 8 = .ok (.aload_n 0, 1) := by decide +kernel
theorem zd39_9 : decode zxm39.2.1 9 = .ok (.invokevirtual 53, 3) := by decide +kernel
theorem zd39_12 : decode zxm39.2.1 12 = .ok (.istore_n 1, 1) := by decide +kernel
theorem zd39_13 : decode zxm39.2.1 13 = .ok (.iload_n 1, 1) := by decide +kernel
theorem zd39_14 : decode zxm39.2.1 14 = .ok (.bipush 119, 2) := by decide +kernel
theorem zd39_16 : decode zxm39.2.1 16 = .ok (.if_icmp .eq 15, 3) := by decide +kernel
theorem zd39_19 : decode zxm39.2.1 19 = .ok (.iload_n 1, 1) := by decide +kernel
theorem zd39_20 : decode zxm39.2.1 20 = .ok (.bipush 103, 2) := by decide +kernel
theorem zd39_22 : decode zxm39.2.1 22 = .ok (.if_icmp .eq 9, 3) := by decide +kernel
theorem zd39_25 : decode zxm39.2.1 25 = .ok (.iload_n 1, 1) := by decide +kernel
theorem zd39_26 : decode zxm39.2.1 26 = .ok (.bipush 113, 2) := by decide +kernel
theorem zd39_28 : decode zxm39.2.1 28 = .ok (.if_icmp .ne 7, 3) := by decide +kernel
theorem zd39_31 : decode zxm39.2.1 31 = .ok (.iconst 1, 1) := by decide +kernel
theorem zd39_32 : decode zxm39.2.1 32 = .ok (.goto 4, 3) := by decide +kernel
theorem zd39_35 : decode zxm39.2.1 35 = .ok (.iconst 0, 1) := by decide +kernel
theorem zd39_36 : decode zxm39.2.1 36 = .ok (.istore_n 2, 1) := by decide +kernel
theorem zd39_37 : decode zxm39.2.1 37 = .ok (.iload_n 2, 1) := by decide +kernel
theorem zd39_38 : decode zxm39.2.1 38 = .ok (.ifCond .ne 21, 3) := by decide +kernel
theorem zd39_41 : decode zxm39.2.1 41 = .ok (.iload_n 1, 1) := by decide +kernel
theorem zd39_42 : decode zxm39.2.1 42 = .ok (.bipush 118, 2) := by decide +kernel
theorem zd39_44 : decode zxm39.2.1 44 = .ok (.if_icmp .eq 15, 3) := by decide +kernel
theorem zd39_47 : decode zxm39.2.1 47 = .ok (.iload_n 1, 1) := by decide +kernel
theorem zd39_48 : decode zxm39.2.1 48 = .ok (.bipush 106, 2) := by decide +kernel
theorem zd39_50 : decode zxm39.2.1 50 = .ok (.if_icmp .eq 9, 3) := by decide +kernel
theorem zd39_53 : decode zxm39.2.1 53 = .ok (.aload_n 0, 1) := by decide +kernel
theorem zd39_54 : decode zxm39.2.1 54 = .ok (.iconst 1, 1) := by decide +kernel
theorem zd39_55 : decode zxm39.2.1 55 = .ok (.invokevirtual 57, 3) := by decide +kernel
theorem zd39_58 : decode zxm39.2.1 58 = .ok (.return_, 1) := by decide +kernel
theorem zd39_59 : decode zxm39.2.1 59 = .ok (.aload_n 0, 1) := by decide +kernel
theorem zd39_60 : decode zxm39.2.1 60 = .ok (.getfield 25, 3) := by decide +kernel
theorem zd39_63 : decode zxm39.2.1 63 = .ok (.getfield 47, 3) := by decide +kernel
theorem zd39_66 : decode zxm39.2.1 66 = .ok (.bipush 14, 2) := by decide +kernel
theorem zd39_68 : decode zxm39.2.1 68 = .ok (.if_icmp .ne 9, 3) := by decide +kernel
theorem zd39_71 : decode zxm39.2.1 71 = .ok (.aload_n 0, 1) := by decide +kernel
theorem zd39_72 : decode zxm39.2.1 72 = .ok (.iconst 4, 1) := by decide +kernel
theorem zd39_73 : decode zxm39.2.1 73 = .ok (.invokevirtual 57, 3) := by decide +kernel
theorem zd39_76 : decode zxm39.2.1 76 = .ok (.return_, 1) := by decide +kernel
theorem zd39_77 : decode zxm39.2.1 77 = .ok (.aload_n 0, 1) := by decide +kernel
theorem zd39_78 : decode zxm39.2.1 78 = .ok (.dup, 1) := by decide +kernel
theorem zd39_79 : decode zxm39.2.1 79 = .ok (.getfield 15, 3) := by decide +kernel
theorem zd39_82 : decode zxm39.2.1 82 = .ok (.iconst 1, 1) := by decide +kernel
theorem zd39_83 : decode zxm39.2.1 83 = .ok (.iadd, 1) := by decide +kernel
theorem zd39_84 : decode zxm39.2.1 84 = .ok (.putfield 15, 3) := by decide +kernel
theorem zd39_87 : decode zxm39.2.1 87 = .ok (.aload_n 0, 1) := by decide +kernel
theorem zd39_88 : decode zxm39.2.1 88 = .ok (.getfield 25, 3) := by decide +kernel
theorem zd39_91 : decode zxm39.2.1 91 = .ok (.getfield 60, 3) := by decide +kernel
theorem zd39_94 : decode zxm39.2.1 94 = .ok (.istore_n 3, 1) := by decide +kernel
theorem zd39_95 : decode zxm39.2.1 95 = .ok (.iload_n 2, 1) := by decide +kernel
theorem zd39_96 : decode zxm39.2.1 96 = .ok (.ifCond .eq 8, 3) := by decide +kernel
theorem zd39_99 : decode zxm39.2.1 99 = .ok (.aload_n 0, 1) := by decide +kernel
theorem zd39_100 : decode zxm39.2.1 100 = .ok (.iconst 0, 1) := by decide +kernel
theorem zd39_101 : decode zxm39.2.1 101 = .ok (.invokevirtual 63, 3) := by decide +kernel
theorem zd39_104 : decode zxm39.2.1 104 = .ok (.aload_n 0, 1) := by decide +kernel
theorem zd39_105 : decode zxm39.2.1 105 = .ok (.getfield 25, 3) := by decide +kernel
theorem zd39_108 : decode zxm39.2.1 108 = .ok (.getfield 60, 3) := by decide +kernel
theorem zd39_111 : decode zxm39.2.1 111 = .ok (.istore 4, 2) := by decide +kernel
theorem zd39_113 : decode zxm39.2.1 113 = .ok (.aload_n 0, 1) := by decide +kernel
theorem zd39_114 : decode zxm39.2.1 114 = .ok (.bipush 40, 2) := by decide +kernel
theorem zd39_116 : decode zxm39.2.1 116 = .ok (.invokevirtual 43, 3) := by decide +kernel
theorem zd39_119 : decode zxm39.2.1 119 = .ok (.aload_n 0, 1) := by decide +kernel
theorem zd39_120 : decode zxm39.2.1 120 = .ok (.iconst 1, 1) := by decide +kernel
theorem zd39_121 : decode zxm39.2.1 121 = .ok (.invokevirtual 66, 3) := by decide +kernel
theorem zd39_124 : decode zxm39.2.1 124 = .ok (.aload_n 0, 1) := by decide +kernel
theorem zd39_125 : decode zxm39.2.1 125 = .ok (.bipush 41, 2) := by decide +kernel
theorem zd39_127 : decode zxm39.2.1 127 = .ok (.invokevirtual 43, 3) := by decide +kernel
theorem zd39_130 : decode zxm39.2.1 130 = .ok (.aload_n 0, 1) := by decide +kernel
theorem zd39_131 : decode zxm39.2.1 131 = .ok (.getfield 25, 3) := by decide +kernel
theorem zd39_134 : decode zxm39.2.1 134 = .ok (.iload_n 1, 1) := by decide +kernel
theorem zd39_135 : decode zxm39.2.1 135 = .ok (.iload_n 3, 1) := by decide +kernel
theorem zd39_136 : decode zxm39.2.1 136 = .ok (.iload 4, 2) := by decide +kernel
theorem zd39_138 : decode zxm39.2.1 138 = .ok (.invokevirtual 69, 3) := by decide +kernel
theorem zd39_141 : decode zxm39.2.1 141 = .ok (.return_, 1) := by decide +kernel
theorem zt_LawReader_readClause {f0 : Int} {f1 : Int} {f2 : Int} {f4 : Int} {f5 : Int} {f6 : Int} {f7 : Int} {f8 : Int} {f9 : Int} {g0 : (Int → Int)} {g1 : (Int → Int)} {g2 : (Int → Int)} {g3 : (Int → Int)} {g4 : (Int → Int)} {g5 : (Int → Int)} {g6 : (Int → Int)} {o : Int × Int × Int × Int × Int × Int × Int × Int × (Int → Int) × (Int → Int) × (Int → Int) × (Int → Int) × (Int → Int) × (Int → Int)} (h : zf_LawReader_readClause f0 f1 f2 f4 f5 f6 f7 f8 f9 g0 g1 g2 g3 g4 g5 g6 = some o) : zv_Fn z_TB z_cl z_KX zy_LawReader_readClause zxm39 (79, 4740) [.inr 0] [.inl f0, .inl f1, .inl f2, .inr 2, .inl f4, .inl f5, .inl f6, .inl f7, .inl f8, .inl f9] [g0, g1, g2, g3, g4, g5, g6] none [.inl o.1, .inl o.2.1, .inl f2, .inr 2, .inl o.2.2.1, .inl o.2.2.2.1, .inl o.2.2.2.2.1, .inl o.2.2.2.2.2.1, .inl o.2.2.2.2.2.2.1, .inl o.2.2.2.2.2.2.2.1] [g0, o.2.2.2.2.2.2.2.2.1, o.2.2.2.2.2.2.2.2.2.1, o.2.2.2.2.2.2.2.2.2.2.1, o.2.2.2.2.2.2.2.2.2.2.2.1, o.2.2.2.2.2.2.2.2.2.2.2.2.1, o.2.2.2.2.2.2.2.2.2.2.2.2.2] := zv_meth (K := (z_KF3, z_KC3, z_KL3, z_KT3, [], [], [], none)) (FT := z_FT) (MT := z_MT) (n := 1) zxp39 (z_ks3 _ (fun _ h => List.mem_cons_of_mem _ h) _ _ _ _ (fun j r h _ => by cases h)) (fun _ _ => zs_KX_p) zyw_LawReader_readClause (fun va F G h => by obtain ⟨rfl, _⟩ := h; rfl) (fun va F G h => by obtain ⟨rfl, _⟩ := h; rfl) rfl fun good va F G hB hret hvret hP => by
  obtain ⟨rfl, rfl, rfl⟩ := hP
  unfold zf_LawReader_readClause at h
  refine zv_ald hB zd39_0 rfl rfl rfl ?_
  refine zv_getf hB zd39_1 rfl rfl (fun _ _ => ?_)
  refine zv_zeq hB zd39_4 rfl (fun hc1 => ?_) (fun hc1 => ?_)
  · rw [if_pos hc1] at h
    refine zv_ald hB zd39_8 rfl rfl rfl ?_
    obtain ⟨r2, hr2, h⟩ := zi_bind h
    refine zv_cv hB (zv_emq (va2 := [.inr 0]) (F := [.inl f0, .inl f1, .inl f2, .inr 2, .inl f4, .inl f5, .inl f6, .inl f7, .inl f8, .inl f9]) (F' := [.inl f0, .inl f1, .inl f2, .inr 2, .inl f4, .inl f5, .inl f6, .inl f7, .inl f8, .inl f9]) (G := [g0, g1, g2, g3, g4, g5, g6]) (G' := [g0, g1, g2, g3, g4, g5, g6]) (ρ := [0, 1]) (φ := [1, 2]) (ψ := [0]) [none, some 0, some 1, none, none, none, none, none, none, none] [some 0, none, none, none, none, none, none] zyw_LawReader_peek zyw_LawReader_readClause zye_LawReader_readClause (by decide +kernel) (zt_LawReader_peek hr2) ⟨⟨_, rfl, fun _ => rfl⟩, ⟨_, rfl, fun _ => rfl⟩, trivial⟩ ⟨rfl, trivial⟩ rfl rfl rfl rfl rfl rfl rfl) zd39_9 zxt40 rfl (by decide) (by decide) rfl ?_
    refine zv_ist hB zd39_12 rfl rfl rfl ?_
    refine zv_ild hB zd39_13 rfl rfl ?_
    refine zv_con hB zd39_14 rfl ?_
    refine zv_ceq hB zd39_16 rfl (fun hc3 => ?_) (fun hc3 => ?_)
    · rw [if_pos hc3] at h
      refine zv_con hB zd39_31 rfl ?_
      refine zv_goto hB zd39_32 rfl ?_
      refine zv_ist hB zd39_36 rfl rfl rfl ?_
      refine zv_ild hB zd39_37 rfl rfl ?_
      refine zv_zne hB zd39_38 rfl (fun _ => ?_) (fun hc => absurd hc (by decide))
      refine zv_ald hB zd39_59 rfl rfl rfl ?_
      refine zv_getq hB zd39_60 rfl rfl rfl ?_
      refine zv_getf hB zd39_63 rfl rfl (fun _ _ => ?_)
      refine zv_con hB zd39_66 rfl ?_
      refine zv_cne hB zd39_68 rfl (fun hc5 => ?_) (fun hc5 => ?_)
      · rw [if_neg hc5] at h
        refine zv_ald hB zd39_77 rfl rfl rfl ?_
        refine zv_dup hB zd39_78 rfl ?_
        refine zv_getf hB zd39_79 rfl rfl (fun _ _ => ?_)
        refine zv_con hB zd39_82 rfl ?_
        refine zv_addw hB zd39_83 ?_
        refine zv_putf hB zd39_84 rfl rfl (fun h => by cases h) rfl ?_
        refine zv_ald hB zd39_87 rfl rfl rfl ?_
        refine zv_getq hB zd39_88 rfl rfl rfl ?_
        refine zv_getf hB zd39_91 rfl rfl (fun _ _ => ?_)
        refine zv_ist hB zd39_94 rfl rfl rfl ?_
        refine zv_ild hB zd39_95 rfl rfl ?_
        refine zv_zeq hB zd39_96 rfl (fun hc => absurd hc (by decide)) (fun _ => ?_)
        refine zv_ald hB zd39_99 rfl rfl rfl ?_
        refine zv_con hB zd39_100 rfl ?_
        obtain ⟨r7, hr7, h⟩ := zi_bind h
        refine zv_cv hB (zv_emq (va2 := [.inr 0, .inl 0]) (F := [.inl f0, .inl (zi_w (f1 + 1)), .inl f2, .inr 2, .inl f4, .inl f5, .inl f6, .inl f7, .inl f8, .inl f9]) (F' := [.inl r7.1, .inl r7.2.1, .inl f2, .inr 2, .inl f4, .inl r7.2.2.1, .inl f6, .inl f7, .inl f8, .inl f9]) (G := [g0, g1, g2, g3, g4, g5, g6]) (G' := [g0, r7.2.2.2.1, r7.2.2.2.2, g3, g4, g5, g6]) (ρ := [0, 1, 2, 3, 4]) (φ := [0, 1, 2, 3, 5]) (ψ := [0, 1, 2]) [some 0, some 1, some 2, some 3, none, some 4, none, none, none, none] [some 0, some 1, some 2, none, none, none, none] zyw_LawReader_readSum zyw_LawReader_readClause zye_LawReader_readClause (by decide +kernel) (zt_LawReader_readSum hr7) ⟨⟨_, rfl, fun _ => rfl⟩, ⟨_, rfl, fun _ => rfl⟩, ⟨_, rfl, fun _ => rfl⟩, ⟨_, rfl, fun _ => rfl⟩, ⟨_, rfl, fun _ => rfl⟩, trivial⟩ ⟨rfl, rfl, rfl, trivial⟩ rfl rfl rfl rfl rfl rfl rfl) zd39_101 zxt43 rfl (by decide) (by decide) rfl ?_
        refine zv_ald hB zd39_104 rfl rfl rfl ?_
        refine zv_getq hB zd39_105 rfl rfl rfl ?_
        refine zv_getf hB zd39_108 rfl rfl (fun _ _ => ?_)
        refine zv_ist hB zd39_111 rfl rfl rfl ?_
        refine zv_ald hB zd39_113 rfl rfl rfl ?_
        refine zv_con hB zd39_114 rfl ?_
        obtain ⟨r8, hr8, h⟩ := zi_bind h
        refine zv_cv hB (zv_emq (va2 := [.inr 0, .inl 40]) (F := [.inl r7.1, .inl r7.2.1, .inl f2, .inr 2, .inl f4, .inl r7.2.2.1, .inl f6, .inl f7, .inl f8, .inl f9]) (F' := [.inl r8.1, .inl r8.2, .inl f2, .inr 2, .inl f4, .inl r7.2.2.1, .inl f6, .inl f7, .inl f8, .inl f9]) (G := [g0, r7.2.2.2.1, r7.2.2.2.2, g3, g4, g5, g6]) (G' := [g0, r7.2.2.2.1, r7.2.2.2.2, g3, g4, g5, g6]) (ρ := [0, 1]) (φ := [0, 1, 2]) (ψ := [0]) [some 0, some 1, some 2, none, none, none, none, none, none, none] [some 0, none, none, none, none, none, none] zyw_LawReader_skip zyw_LawReader_readClause zye_LawReader_readClause (by decide +kernel) (zt_LawReader_skip hr8) ⟨⟨_, rfl, fun _ => rfl⟩, ⟨_, rfl, fun _ => rfl⟩, ⟨_, rfl, fun _ => rfl⟩, trivial⟩ ⟨rfl, trivial⟩ rfl rfl rfl rfl rfl rfl rfl) zd39_116 zxt46 rfl (by decide) (by decide) rfl ?_
        refine zv_ald hB zd39_119 rfl rfl rfl ?_
        refine zv_con hB zd39_120 rfl ?_
        obtain ⟨r9, hr9, h⟩ := zi_bind h
        refine zv_cv hB (zv_emq (va2 := [.inr 0, .inl 1]) (F := [.inl r8.1, .inl r8.2, .inl f2, .inr 2, .inl f4, .inl r7.2.2.1, .inl f6, .inl f7, .inl f8, .inl f9]) (F' := [.inl r9.1, .inl r9.2.1, .inl f2, .inr 2, .inl f4, .inl r9.2.2.1, .inl f6, .inl f7, .inl f8, .inl f9]) (G := [g0, r7.2.2.2.1, r7.2.2.2.2, g3, g4, g5, g6]) (G' := [g0, r9.2.2.2.1, r9.2.2.2.2, g3, g4, g5, g6]) (ρ := [0, 1, 2, 3, 4]) (φ := [0, 1, 2, 3, 5]) (ψ := [0, 1, 2]) [some 0, some 1, some 2, some 3, none, some 4, none, none, none, none] [some 0, some 1, some 2, none, none, none, none] zyw_LawReader_readCondition zyw_LawReader_readClause zye_LawReader_readClause (by decide +kernel) (zt_LawReader_readCondition hr9) ⟨⟨_, rfl, fun _ => rfl⟩, ⟨_, rfl, fun _ => rfl⟩, ⟨_, rfl, fun _ => rfl⟩, ⟨_, rfl, fun _ => rfl⟩, ⟨_, rfl, fun _ => rfl⟩, trivial⟩ ⟨rfl, rfl, rfl, trivial⟩ rfl rfl rfl rfl rfl rfl rfl) zd39_121 zxt69 rfl (by decide) (by decide) rfl ?_
        refine zv_ald hB zd39_124 rfl rfl rfl ?_
        refine zv_con hB zd39_125 rfl ?_
        obtain ⟨r10, hr10, h⟩ := zi_bind h
        refine zv_cv hB (zv_emq (va2 := [.inr 0, .inl 41]) (F := [.inl r9.1, .inl r9.2.1, .inl f2, .inr 2, .inl f4, .inl r9.2.2.1, .inl f6, .inl f7, .inl f8, .inl f9]) (F' := [.inl r10.1, .inl r10.2, .inl f2, .inr 2, .inl f4, .inl r9.2.2.1, .inl f6, .inl f7, .inl f8, .inl f9]) (G := [g0, r9.2.2.2.1, r9.2.2.2.2, g3, g4, g5, g6]) (G' := [g0, r9.2.2.2.1, r9.2.2.2.2, g3, g4, g5, g6]) (ρ := [0, 1]) (φ := [0, 1, 2]) (ψ := [0]) [some 0, some 1, some 2, none, none, none, none, none, none, none] [some 0, none, none, none, none, none, none] zyw_LawReader_skip zyw_LawReader_readClause zye_LawReader_readClause (by decide +kernel) (zt_LawReader_skip hr10) ⟨⟨_, rfl, fun _ => rfl⟩, ⟨_, rfl, fun _ => rfl⟩, ⟨_, rfl, fun _ => rfl⟩, trivial⟩ ⟨rfl, trivial⟩ rfl rfl rfl rfl rfl rfl rfl) zd39_127 zxt46 rfl (by decide) (by decide) rfl ?_
        refine zv_ald hB zd39_130 rfl rfl rfl ?_
        refine zv_getq hB zd39_131 rfl rfl rfl ?_
        refine zv_ild hB zd39_134 rfl rfl ?_
        refine zv_ild hB zd39_135 rfl rfl ?_
        refine zv_ild hB zd39_136 rfl rfl ?_
        obtain ⟨r11, hr11, h⟩ := zi_bind h
        refine zv_cv hB (zv_emq (va2 := [.inr 2, .inl r2, .inl f5, .inl r7.2.2.1]) (F := [.inl r10.1, .inl r10.2, .inl f2, .inr 2, .inl f4, .inl r9.2.2.1, .inl f6, .inl f7, .inl f8, .inl f9]) (F' := [.inl r10.1, .inl r10.2, .inl f2, .inr 2, .inl r11.1, .inl r9.2.2.1, .inl r11.2.1, .inl r11.2.2.1, .inl r11.2.2.2.1, .inl r11.2.2.2.2.1]) (G := [g0, r9.2.2.2.1, r9.2.2.2.2, g3, g4, g5, g6]) (G' := [g0, r9.2.2.2.1, r9.2.2.2.2, r11.2.2.2.2.2.1, r11.2.2.2.2.2.2.1, r11.2.2.2.2.2.2.2.1, r11.2.2.2.2.2.2.2.2]) (ρ := [2, 5, 6, 7, 8, 3, 4]) (φ := [4, 5, 6, 7, 8, 9]) (ψ := [3, 4, 5, 6, 1, 2]) [none, none, none, none, some 0, some 1, some 2, some 3, some 4, some 5] [none, some 4, some 5, some 0, some 1, some 2, some 3] zyw_Law_addClause zyw_LawReader_readClause zye_LawReader_readClause (by decide +kernel) (zt_Law_addClause hr11) ⟨⟨_, rfl, fun _ => rfl⟩, ⟨_, rfl, fun _ => rfl⟩, ⟨_, rfl, fun _ => rfl⟩, ⟨_, rfl, fun _ => rfl⟩, ⟨_, rfl, fun _ => rfl⟩, ⟨_, rfl, fun _ => rfl⟩, trivial⟩ ⟨rfl, rfl, rfl, rfl, rfl, rfl, trivial⟩ rfl rfl rfl rfl rfl rfl rfl) zd39_138 zxt74 rfl (by decide) (by decide) rfl ?_
        have hw := Option.some.inj h
        subst hw
        exact hvret _ _ _ _ zd39_141 trivial ⟨rfl, rfl, rfl⟩
      · rw [if_pos hc5] at h
        refine zv_ald hB zd39_71 rfl rfl rfl ?_
        refine zv_con hB zd39_72 rfl ?_
        obtain ⟨r12, hr12, h⟩ := zi_bind h
        refine zv_cv hB (zv_emq (va2 := [.inr 0, .inl 4]) (F := [.inl f0, .inl f1, .inl f2, .inr 2, .inl f4, .inl f5, .inl f6, .inl f7, .inl f8, .inl f9]) (F' := [.inl r12, .inl f1, .inl f2, .inr 2, .inl f4, .inl f5, .inl f6, .inl f7, .inl f8, .inl f9]) (G := [g0, g1, g2, g3, g4, g5, g6]) (G' := [g0, g1, g2, g3, g4, g5, g6]) (ρ := [0]) (φ := [0, 1]) (ψ := []) [some 0, some 1, none, none, none, none, none, none, none, none] [none, none, none, none, none, none, none] zyw_LawReader_fail zyw_LawReader_readClause zye_LawReader_readClause (by decide +kernel) (zt_LawReader_fail hr12) ⟨⟨_, rfl, fun _ => rfl⟩, ⟨_, rfl, fun _ => rfl⟩, trivial⟩ trivial rfl rfl rfl rfl rfl rfl rfl) zd39_73 zxt41 rfl (by decide) (by decide) rfl ?_
        have hw := Option.some.inj h
        subst hw
        exact hvret _ _ _ _ zd39_76 trivial ⟨rfl, rfl, rfl⟩
    · rw [if_neg hc3] at h
      refine zv_ild hB zd39_19 rfl rfl ?_
      refine zv_con hB zd39_20 rfl ?_
      refine zv_ceq hB zd39_22 rfl (fun hc13 => ?_) (fun hc13 => ?_)
      · rw [if_pos hc13] at h
        refine zv_con hB zd39_31 rfl ?_
        refine zv_goto hB zd39_32 rfl ?_
        refine zv_ist hB zd39_36 rfl rfl rfl ?_
        refine zv_ild hB zd39_37 rfl rfl ?_
        refine zv_zne hB zd39_38 rfl (fun _ => ?_) (fun hc => absurd hc (by decide))
        refine zv_ald hB zd39_59 rfl rfl rfl ?_
        refine zv_getq hB zd39_60 rfl rfl rfl ?_
        refine zv_getf hB zd39_63 rfl rfl (fun _ _ => ?_)
        refine zv_con hB zd39_66 rfl ?_
        refine zv_cne hB zd39_68 rfl (fun hc15 => ?_) (fun hc15 => ?_)
        · rw [if_neg hc15] at h
          refine zv_ald hB zd39_77 rfl rfl rfl ?_
          refine zv_dup hB zd39_78 rfl ?_
          refine zv_getf hB zd39_79 rfl rfl (fun _ _ => ?_)
          refine zv_con hB zd39_82 rfl ?_
          refine zv_addw hB zd39_83 ?_
          refine zv_putf hB zd39_84 rfl rfl (fun h => by cases h) rfl ?_
          refine zv_ald hB zd39_87 rfl rfl rfl ?_
          refine zv_getq hB zd39_88 rfl rfl rfl ?_
          refine zv_getf hB zd39_91 rfl rfl (fun _ _ => ?_)
          refine zv_ist hB zd39_94 rfl rfl rfl ?_
          refine zv_ild hB zd39_95 rfl rfl ?_
          refine zv_zeq hB zd39_96 rfl (fun hc => absurd hc (by decide)) (fun _ => ?_)
          refine zv_ald hB zd39_99 rfl rfl rfl ?_
          refine zv_con hB zd39_100 rfl ?_
          obtain ⟨r17, hr17, h⟩ := zi_bind h
          refine zv_cv hB (zv_emq (va2 := [.inr 0, .inl 0]) (F := [.inl f0, .inl (zi_w (f1 + 1)), .inl f2, .inr 2, .inl f4, .inl f5, .inl f6, .inl f7, .inl f8, .inl f9]) (F' := [.inl r17.1, .inl r17.2.1, .inl f2, .inr 2, .inl f4, .inl r17.2.2.1, .inl f6, .inl f7, .inl f8, .inl f9]) (G := [g0, g1, g2, g3, g4, g5, g6]) (G' := [g0, r17.2.2.2.1, r17.2.2.2.2, g3, g4, g5, g6]) (ρ := [0, 1, 2, 3, 4]) (φ := [0, 1, 2, 3, 5]) (ψ := [0, 1, 2]) [some 0, some 1, some 2, some 3, none, some 4, none, none, none, none] [some 0, some 1, some 2, none, none, none, none] zyw_LawReader_readSum zyw_LawReader_readClause zye_LawReader_readClause (by decide +kernel) (zt_LawReader_readSum hr17) ⟨⟨_, rfl, fun _ => rfl⟩, ⟨_, rfl, fun _ => rfl⟩, ⟨_, rfl, fun _ => rfl⟩, ⟨_, rfl, fun _ => rfl⟩, ⟨_, rfl, fun _ => rfl⟩, trivial⟩ ⟨rfl, rfl, rfl, trivial⟩ rfl rfl rfl rfl rfl rfl rfl) zd39_101 zxt43 rfl (by decide) (by decide) rfl ?_
          refine zv_ald hB zd39_104 rfl rfl rfl ?_
          refine zv_getq hB zd39_105 rfl rfl rfl ?_
          refine zv_getf hB zd39_108 rfl rfl (fun _ _ => ?_)
          refine zv_ist hB zd39_111 rfl rfl rfl ?_
          refine zv_ald hB zd39_113 rfl rfl rfl ?_
          refine zv_con hB zd39_114 rfl ?_
          obtain ⟨r18, hr18, h⟩ := zi_bind h
          refine zv_cv hB (zv_emq (va2 := [.inr 0, .inl 40]) (F := [.inl r17.1, .inl r17.2.1, .inl f2, .inr 2, .inl f4, .inl r17.2.2.1, .inl f6, .inl f7, .inl f8, .inl f9]) (F' := [.inl r18.1, .inl r18.2, .inl f2, .inr 2, .inl f4, .inl r17.2.2.1, .inl f6, .inl f7, .inl f8, .inl f9]) (G := [g0, r17.2.2.2.1, r17.2.2.2.2, g3, g4, g5, g6]) (G' := [g0, r17.2.2.2.1, r17.2.2.2.2, g3, g4, g5, g6]) (ρ := [0, 1]) (φ := [0, 1, 2]) (ψ := [0]) [some 0, some 1, some 2, none, none, none, none, none, none, none] [some 0, none, none, none, none, none, none] zyw_LawReader_skip zyw_LawReader_readClause zye_LawReader_readClause (by decide +kernel) (zt_LawReader_skip hr18) ⟨⟨_, rfl, fun _ => rfl⟩, ⟨_, rfl, fun _ => rfl⟩, ⟨_, rfl, fun _ => rfl⟩, trivial⟩ ⟨rfl, trivial⟩ rfl rfl rfl rfl rfl rfl rfl) zd39_116 zxt46 rfl (by decide) (by decide) rfl ?_
          refine zv_ald hB zd39_119 rfl rfl rfl ?_
          refine zv_con hB zd39_120 rfl ?_
          obtain ⟨r19, hr19, h⟩ := zi_bind h
          refine zv_cv hB (zv_emq (va2 := [.inr 0, .inl 1]) (F := [.inl r18.1, .inl r18.2, .inl f2, .inr 2, .inl f4, .inl r17.2.2.1, .inl f6, .inl f7, .inl f8, .inl f9]) (F' := [.inl r19.1, .inl r19.2.1, .inl f2, .inr 2, .inl f4, .inl r19.2.2.1, .inl f6, .inl f7, .inl f8, .inl f9]) (G := [g0, r17.2.2.2.1, r17.2.2.2.2, g3, g4, g5, g6]) (G' := [g0, r19.2.2.2.1, r19.2.2.2.2, g3, g4, g5, g6]) (ρ := [0, 1, 2, 3, 4]) (φ := [0, 1, 2, 3, 5]) (ψ := [0, 1, 2]) [some 0, some 1, some 2, some 3, none, some 4, none, none, none, none] [some 0, some 1, some 2, none, none, none, none] zyw_LawReader_readCondition zyw_LawReader_readClause zye_LawReader_readClause (by decide +kernel) (zt_LawReader_readCondition hr19) ⟨⟨_, rfl, fun _ => rfl⟩, ⟨_, rfl, fun _ => rfl⟩, ⟨_, rfl, fun _ => rfl⟩, ⟨_, rfl, fun _ => rfl⟩, ⟨_, rfl, fun _ => rfl⟩, trivial⟩ ⟨rfl, rfl, rfl, trivial⟩ rfl rfl rfl rfl rfl rfl rfl) zd39_121 zxt69 rfl (by decide) (by decide) rfl ?_
          refine zv_ald hB zd39_124 rfl rfl rfl ?_
          refine zv_con hB zd39_125 rfl ?_
          obtain ⟨r20, hr20, h⟩ := zi_bind h
          refine zv_cv hB (zv_emq (va2 := [.inr 0, .inl 41]) (F := [.inl r19.1, .inl r19.2.1, .inl f2, .inr 2, .inl f4, .inl r19.2.2.1, .inl f6, .inl f7, .inl f8, .inl f9]) (F' := [.inl r20.1, .inl r20.2, .inl f2, .inr 2, .inl f4, .inl r19.2.2.1, .inl f6, .inl f7, .inl f8, .inl f9]) (G := [g0, r19.2.2.2.1, r19.2.2.2.2, g3, g4, g5, g6]) (G' := [g0, r19.2.2.2.1, r19.2.2.2.2, g3, g4, g5, g6]) (ρ := [0, 1]) (φ := [0, 1, 2]) (ψ := [0]) [some 0, some 1, some 2, none, none, none, none, none, none, none] [some 0, none, none, none, none, none, none] zyw_LawReader_skip zyw_LawReader_readClause zye_LawReader_readClause (by decide +kernel) (zt_LawReader_skip hr20) ⟨⟨_, rfl, fun _ => rfl⟩, ⟨_, rfl, fun _ => rfl⟩, ⟨_, rfl, fun _ => rfl⟩, trivial⟩ ⟨rfl, trivial⟩ rfl rfl rfl rfl rfl rfl rfl) zd39_127 zxt46 rfl (by decide) (by decide) rfl ?_
          refine zv_ald hB zd39_130 rfl rfl rfl ?_
          refine zv_getq hB zd39_131 rfl rfl rfl ?_
          refine zv_ild hB zd39_134 rfl rfl ?_
          refine zv_ild hB zd39_135 rfl rfl ?_
          refine zv_ild hB zd39_136 rfl rfl ?_
          obtain ⟨r21, hr21, h⟩ := zi_bind h
          refine zv_cv hB (zv_emq (va2 := [.inr 2, .inl r2, .inl f5, .inl r17.2.2.1]) (F := [.inl r20.1, .inl r20.2, .inl f2, .inr 2, .inl f4, .inl r19.2.2.1, .inl f6, .inl f7, .inl f8, .inl f9]) (F' := [.inl r20.1, .inl r20.2, .inl f2, .inr 2, .inl r21.1, .inl r19.2.2.1, .inl r21.2.1, .inl r21.2.2.1, .inl r21.2.2.2.1, .inl r21.2.2.2.2.1]) (G := [g0, r19.2.2.2.1, r19.2.2.2.2, g3, g4, g5, g6]) (G' := [g0, r19.2.2.2.1, r19.2.2.2.2, r21.2.2.2.2.2.1, r21.2.2.2.2.2.2.1, r21.2.2.2.2.2.2.2.1, r21.2.2.2.2.2.2.2.2]) (ρ := [2, 5, 6, 7, 8, 3, 4]) (φ := [4, 5, 6, 7, 8, 9]) (ψ := [3, 4, 5, 6, 1, 2]) [none, none, none, none, some 0, some 1, some 2, some 3, some 4, some 5] [none, some 4, some 5, some 0, some 1, some 2, some 3] zyw_Law_addClause zyw_LawReader_readClause zye_LawReader_readClause (by decide +kernel) (zt_Law_addClause hr21) ⟨⟨_, rfl, fun _ => rfl⟩, ⟨_, rfl, fun _ => rfl⟩, ⟨_, rfl, fun _ => rfl⟩, ⟨_, rfl, fun _ => rfl⟩, ⟨_, rfl, fun _ => rfl⟩, ⟨_, rfl, fun _ => rfl⟩, trivial⟩ ⟨rfl, rfl, rfl, rfl, rfl, rfl, trivial⟩ rfl rfl rfl rfl rfl rfl rfl) zd39_138 zxt74 rfl (by decide) (by decide) rfl ?_
          have hw := Option.some.inj h
          subst hw
          exact hvret _ _ _ _ zd39_141 trivial ⟨rfl, rfl, rfl⟩
        · rw [if_pos hc15] at h
          refine zv_ald hB zd39_71 rfl rfl rfl ?_
          refine zv_con hB zd39_72 rfl ?_
          obtain ⟨r22, hr22, h⟩ := zi_bind h
          refine zv_cv hB (zv_emq (va2 := [.inr 0, .inl 4]) (F := [.inl f0, .inl f1, .inl f2, .inr 2, .inl f4, .inl f5, .inl f6, .inl f7, .inl f8, .inl f9]) (F' := [.inl r22, .inl f1, .inl f2, .inr 2, .inl f4, .inl f5, .inl f6, .inl f7, .inl f8, .inl f9]) (G := [g0, g1, g2, g3, g4, g5, g6]) (G' := [g0, g1, g2, g3, g4, g5, g6]) (ρ := [0]) (φ := [0, 1]) (ψ := []) [some 0, some 1, none, none, none, none, none, none, none, none] [none, none, none, none, none, none, none] zyw_LawReader_fail zyw_LawReader_readClause zye_LawReader_readClause (by decide +kernel) (zt_LawReader_fail hr22) ⟨⟨_, rfl, fun _ => rfl⟩, ⟨_, rfl, fun _ => rfl⟩, trivial⟩ trivial rfl rfl rfl rfl rfl rfl rfl) zd39_73 zxt41 rfl (by decide) (by decide) rfl ?_
          have hw := Option.some.inj h
          subst hw
          exact hvret _ _ _ _ zd39_76 trivial ⟨rfl, rfl, rfl⟩
      · rw [if_neg hc13] at h
        refine zv_ild hB zd39_25 rfl rfl ?_
        refine zv_con hB zd39_26 rfl ?_
        refine zv_cne hB zd39_28 rfl (fun hc23 => ?_) (fun hc23 => ?_)
        · rw [if_neg hc23] at h
          refine zv_con hB zd39_35 rfl ?_
          refine zv_ist hB zd39_36 rfl rfl rfl ?_
          refine zv_ild hB zd39_37 rfl rfl ?_
          refine zv_zne hB zd39_38 rfl (fun hc => absurd hc (by decide)) (fun _ => ?_)
          refine zv_ild hB zd39_41 rfl rfl ?_
          refine zv_con hB zd39_42 rfl ?_
          refine zv_ceq hB zd39_44 rfl (fun hc25 => ?_) (fun hc25 => ?_)
          · rw [if_pos hc25] at h
            refine zv_ald hB zd39_59 rfl rfl rfl ?_
            refine zv_getq hB zd39_60 rfl rfl rfl ?_
            refine zv_getf hB zd39_63 rfl rfl (fun _ _ => ?_)
            refine zv_con hB zd39_66 rfl ?_
            refine zv_cne hB zd39_68 rfl (fun hc26 => ?_) (fun hc26 => ?_)
            · rw [if_neg hc26] at h
              refine zv_ald hB zd39_77 rfl rfl rfl ?_
              refine zv_dup hB zd39_78 rfl ?_
              refine zv_getf hB zd39_79 rfl rfl (fun _ _ => ?_)
              refine zv_con hB zd39_82 rfl ?_
              refine zv_addw hB zd39_83 ?_
              refine zv_putf hB zd39_84 rfl rfl (fun h => by cases h) rfl ?_
              refine zv_ald hB zd39_87 rfl rfl rfl ?_
              refine zv_getq hB zd39_88 rfl rfl rfl ?_
              refine zv_getf hB zd39_91 rfl rfl (fun _ _ => ?_)
              refine zv_ist hB zd39_94 rfl rfl rfl ?_
              refine zv_ild hB zd39_95 rfl rfl ?_
              refine zv_zeq hB zd39_96 rfl (fun _ => ?_) (fun hc => absurd hc (by decide))
              refine zv_ald hB zd39_104 rfl rfl rfl ?_
              refine zv_getq hB zd39_105 rfl rfl rfl ?_
              refine zv_getf hB zd39_108 rfl rfl (fun _ _ => ?_)
              refine zv_ist hB zd39_111 rfl rfl rfl ?_
              refine zv_ald hB zd39_113 rfl rfl rfl ?_
              refine zv_con hB zd39_114 rfl ?_
              obtain ⟨r28, hr28, h⟩ := zi_bind h
              refine zv_cv hB (zv_emq (va2 := [.inr 0, .inl 40]) (F := [.inl f0, .inl (zi_w (f1 + 1)), .inl f2, .inr 2, .inl f4, .inl f5, .inl f6, .inl f7, .inl f8, .inl f9]) (F' := [.inl r28.1, .inl r28.2, .inl f2, .inr 2, .inl f4, .inl f5, .inl f6, .inl f7, .inl f8, .inl f9]) (G := [g0, g1, g2, g3, g4, g5, g6]) (G' := [g0, g1, g2, g3, g4, g5, g6]) (ρ := [0, 1]) (φ := [0, 1, 2]) (ψ := [0]) [some 0, some 1, some 2, none, none, none, none, none, none, none] [some 0, none, none, none, none, none, none] zyw_LawReader_skip zyw_LawReader_readClause zye_LawReader_readClause (by decide +kernel) (zt_LawReader_skip hr28) ⟨⟨_, rfl, fun _ => rfl⟩, ⟨_, rfl, fun _ => rfl⟩, ⟨_, rfl, fun _ => rfl⟩, trivial⟩ ⟨rfl, trivial⟩ rfl rfl rfl rfl rfl rfl rfl) zd39_116 zxt46 rfl (by decide) (by decide) rfl ?_
              refine zv_ald hB zd39_119 rfl rfl rfl ?_
              refine zv_con hB zd39_120 rfl ?_
              obtain ⟨r29, hr29, h⟩ := zi_bind h
              refine zv_cv hB (zv_emq (va2 := [.inr 0, .inl 1]) (F := [.inl r28.1, .inl r28.2, .inl f2, .inr 2, .inl f4, .inl f5, .inl f6, .inl f7, .inl f8, .inl f9]) (F' := [.inl r29.1, .inl r29.2.1, .inl f2, .inr 2, .inl f4, .inl r29.2.2.1, .inl f6, .inl f7, .inl f8, .inl f9]) (G := [g0, g1, g2, g3, g4, g5, g6]) (G' := [g0, r29.2.2.2.1, r29.2.2.2.2, g3, g4, g5, g6]) (ρ := [0, 1, 2, 3, 4]) (φ := [0, 1, 2, 3, 5]) (ψ := [0, 1, 2]) [some 0, some 1, some 2, some 3, none, some 4, none, none, none, none] [some 0, some 1, some 2, none, none, none, none] zyw_LawReader_readCondition zyw_LawReader_readClause zye_LawReader_readClause (by decide +kernel) (zt_LawReader_readCondition hr29) ⟨⟨_, rfl, fun _ => rfl⟩, ⟨_, rfl, fun _ => rfl⟩, ⟨_, rfl, fun _ => rfl⟩, ⟨_, rfl, fun _ => rfl⟩, ⟨_, rfl, fun _ => rfl⟩, trivial⟩ ⟨rfl, rfl, rfl, trivial⟩ rfl rfl rfl rfl rfl rfl rfl) zd39_121 zxt69 rfl (by decide) (by decide) rfl ?_
              refine zv_ald hB zd39_124 rfl rfl rfl ?_
              refine zv_con hB zd39_125 rfl ?_
              obtain ⟨r30, hr30, h⟩ := zi_bind h
              refine zv_cv hB (zv_emq (va2 := [.inr 0, .inl 41]) (F := [.inl r29.1, .inl r29.2.1, .inl f2, .inr 2, .inl f4, .inl r29.2.2.1, .inl f6, .inl f7, .inl f8, .inl f9]) (F' := [.inl r30.1, .inl r30.2, .inl f2, .inr 2, .inl f4, .inl r29.2.2.1, .inl f6, .inl f7, .inl f8, .inl f9]) (G := [g0, r29.2.2.2.1, r29.2.2.2.2, g3, g4, g5, g6]) (G' := [g0, r29.2.2.2.1, r29.2.2.2.2, g3, g4, g5, g6]) (ρ := [0, 1]) (φ := [0, 1, 2]) (ψ := [0]) [some 0, some 1, some 2, none, none, none, none, none, none, none] [some 0, none, none, none, none, none, none] zyw_LawReader_skip zyw_LawReader_readClause zye_LawReader_readClause (by decide +kernel) (zt_LawReader_skip hr30) ⟨⟨_, rfl, fun _ => rfl⟩, ⟨_, rfl, fun _ => rfl⟩, ⟨_, rfl, fun _ => rfl⟩, trivial⟩ ⟨rfl, trivial⟩ rfl rfl rfl rfl rfl rfl rfl) zd39_127 zxt46 rfl (by decide) (by decide) rfl ?_
              refine zv_ald hB zd39_130 rfl rfl rfl ?_
              refine zv_getq hB zd39_131 rfl rfl rfl ?_
              refine zv_ild hB zd39_134 rfl rfl ?_
              refine zv_ild hB zd39_135 rfl rfl ?_
              refine zv_ild hB zd39_136 rfl rfl ?_
              obtain ⟨r31, hr31, h⟩ := zi_bind h
              refine zv_cv hB (zv_emq (va2 := [.inr 2, .inl r2, .inl f5, .inl f5]) (F := [.inl r30.1, .inl r30.2, .inl f2, .inr 2, .inl f4, .inl r29.2.2.1, .inl f6, .inl f7, .inl f8, .inl f9]) (F' := [.inl r30.1, .inl r30.2, .inl f2, .inr 2, .inl r31.1, .inl r29.2.2.1, .inl r31.2.1, .inl r31.2.2.1, .inl r31.2.2.2.1, .inl r31.2.2.2.2.1]) (G := [g0, r29.2.2.2.1, r29.2.2.2.2, g3, g4, g5, g6]) (G' := [g0, r29.2.2.2.1, r29.2.2.2.2, r31.2.2.2.2.2.1, r31.2.2.2.2.2.2.1, r31.2.2.2.2.2.2.2.1, r31.2.2.2.2.2.2.2.2]) (ρ := [2, 5, 6, 7, 8, 3, 4]) (φ := [4, 5, 6, 7, 8, 9]) (ψ := [3, 4, 5, 6, 1, 2]) [none, none, none, none, some 0, some 1, some 2, some 3, some 4, some 5] [none, some 4, some 5, some 0, some 1, some 2, some 3] zyw_Law_addClause zyw_LawReader_readClause zye_LawReader_readClause (by decide +kernel) (zt_Law_addClause hr31) ⟨⟨_, rfl, fun _ => rfl⟩, ⟨_, rfl, fun _ => rfl⟩, ⟨_, rfl, fun _ => rfl⟩, ⟨_, rfl, fun _ => rfl⟩, ⟨_, rfl, fun _ => rfl⟩, ⟨_, rfl, fun _ => rfl⟩, trivial⟩ ⟨rfl, rfl, rfl, rfl, rfl, rfl, trivial⟩ rfl rfl rfl rfl rfl rfl rfl) zd39_138 zxt74 rfl (by decide) (by decide) rfl ?_
              have hw := Option.some.inj h
              subst hw
              exact hvret _ _ _ _ zd39_141 trivial ⟨rfl, rfl, rfl⟩
            · rw [if_pos hc26] at h
              refine zv_ald hB zd39_71 rfl rfl rfl ?_
              refine zv_con hB zd39_72 rfl ?_
              obtain ⟨r32, hr32, h⟩ := zi_bind h
              refine zv_cv hB (zv_emq (va2 := [.inr 0, .inl 4]) (F := [.inl f0, .inl f1, .inl f2, .inr 2, .inl f4, .inl f5, .inl f6, .inl f7, .inl f8, .inl f9]) (F' := [.inl r32, .inl f1, .inl f2, .inr 2, .inl f4, .inl f5, .inl f6, .inl f7, .inl f8, .inl f9]) (G := [g0, g1, g2, g3, g4, g5, g6]) (G' := [g0, g1, g2, g3, g4, g5, g6]) (ρ := [0]) (φ := [0, 1]) (ψ := []) [some 0, some 1, none, none, none, none, none, none, none, none] [none, none, none, none, none, none, none] zyw_LawReader_fail zyw_LawReader_readClause zye_LawReader_readClause (by decide +kernel) (zt_LawReader_fail hr32) ⟨⟨_, rfl, fun _ => rfl⟩, ⟨_, rfl, fun _ => rfl⟩, trivial⟩ trivial rfl rfl rfl rfl rfl rfl rfl) zd39_73 zxt41 rfl (by decide) (by decide) rfl ?_
              have hw := Option.some.inj h
              subst hw
              exact hvret _ _ _ _ zd39_76 trivial ⟨rfl, rfl, rfl⟩
          · rw [if_neg hc25] at h
            refine zv_ild hB zd39_47 rfl rfl ?_
            refine zv_con hB zd39_48 rfl ?_
            refine zv_ceq hB zd39_50 rfl (fun hc33 => ?_) (fun hc33 => ?_)
            · rw [if_pos hc33] at h
              refine zv_ald hB zd39_59 rfl rfl rfl ?_
              refine zv_getq hB zd39_60 rfl rfl rfl ?_
              refine zv_getf hB zd39_63 rfl rfl (fun _ _ => ?_)
              refine zv_con hB zd39_66 rfl ?_
              refine zv_cne hB zd39_68 rfl (fun hc34 => ?_) (fun hc34 => ?_)
              · rw [if_neg hc34] at h
                refine zv_ald hB zd39_77 rfl rfl rfl ?_
                refine zv_dup hB zd39_78 rfl ?_
                refine zv_getf hB zd39_79 rfl rfl (fun _ _ => ?_)
                refine zv_con hB zd39_82 rfl ?_
                refine zv_addw hB zd39_83 ?_
                refine zv_putf hB zd39_84 rfl rfl (fun h => by cases h) rfl ?_
                refine zv_ald hB zd39_87 rfl rfl rfl ?_
                refine zv_getq hB zd39_88 rfl rfl rfl ?_
                refine zv_getf hB zd39_91 rfl rfl (fun _ _ => ?_)
                refine zv_ist hB zd39_94 rfl rfl rfl ?_
                refine zv_ild hB zd39_95 rfl rfl ?_
                refine zv_zeq hB zd39_96 rfl (fun _ => ?_) (fun hc => absurd hc (by decide))
                refine zv_ald hB zd39_104 rfl rfl rfl ?_
                refine zv_getq hB zd39_105 rfl rfl rfl ?_
                refine zv_getf hB zd39_108 rfl rfl (fun _ _ => ?_)
                refine zv_ist hB zd39_111 rfl rfl rfl ?_
                refine zv_ald hB zd39_113 rfl rfl rfl ?_
                refine zv_con hB zd39_114 rfl ?_
                obtain ⟨r36, hr36, h⟩ := zi_bind h
                refine zv_cv hB (zv_emq (va2 := [.inr 0, .inl 40]) (F := [.inl f0, .inl (zi_w (f1 + 1)), .inl f2, .inr 2, .inl f4, .inl f5, .inl f6, .inl f7, .inl f8, .inl f9]) (F' := [.inl r36.1, .inl r36.2, .inl f2, .inr 2, .inl f4, .inl f5, .inl f6, .inl f7, .inl f8, .inl f9]) (G := [g0, g1, g2, g3, g4, g5, g6]) (G' := [g0, g1, g2, g3, g4, g5, g6]) (ρ := [0, 1]) (φ := [0, 1, 2]) (ψ := [0]) [some 0, some 1, some 2, none, none, none, none, none, none, none] [some 0, none, none, none, none, none, none] zyw_LawReader_skip zyw_LawReader_readClause zye_LawReader_readClause (by decide +kernel) (zt_LawReader_skip hr36) ⟨⟨_, rfl, fun _ => rfl⟩, ⟨_, rfl, fun _ => rfl⟩, ⟨_, rfl, fun _ => rfl⟩, trivial⟩ ⟨rfl, trivial⟩ rfl rfl rfl rfl rfl rfl rfl) zd39_116 zxt46 rfl (by decide) (by decide) rfl ?_
                refine zv_ald hB zd39_119 rfl rfl rfl ?_
                refine zv_con hB zd39_120 rfl ?_
                obtain ⟨r37, hr37, h⟩ := zi_bind h
                refine zv_cv hB (zv_emq (va2 := [.inr 0, .inl 1]) (F := [.inl r36.1, .inl r36.2, .inl f2, .inr 2, .inl f4, .inl f5, .inl f6, .inl f7, .inl f8, .inl f9]) (F' := [.inl r37.1, .inl r37.2.1, .inl f2, .inr 2, .inl f4, .inl r37.2.2.1, .inl f6, .inl f7, .inl f8, .inl f9]) (G := [g0, g1, g2, g3, g4, g5, g6]) (G' := [g0, r37.2.2.2.1, r37.2.2.2.2, g3, g4, g5, g6]) (ρ := [0, 1, 2, 3, 4]) (φ := [0, 1, 2, 3, 5]) (ψ := [0, 1, 2]) [some 0, some 1, some 2, some 3, none, some 4, none, none, none, none] [some 0, some 1, some 2, none, none, none, none] zyw_LawReader_readCondition zyw_LawReader_readClause zye_LawReader_readClause (by decide +kernel) (zt_LawReader_readCondition hr37) ⟨⟨_, rfl, fun _ => rfl⟩, ⟨_, rfl, fun _ => rfl⟩, ⟨_, rfl, fun _ => rfl⟩, ⟨_, rfl, fun _ => rfl⟩, ⟨_, rfl, fun _ => rfl⟩, trivial⟩ ⟨rfl, rfl, rfl, trivial⟩ rfl rfl rfl rfl rfl rfl rfl) zd39_121 zxt69 rfl (by decide) (by decide) rfl ?_
                refine zv_ald hB zd39_124 rfl rfl rfl ?_
                refine zv_con hB zd39_125 rfl ?_
                obtain ⟨r38, hr38, h⟩ := zi_bind h
                refine zv_cv hB (zv_emq (va2 := [.inr 0, .inl 41]) (F := [.inl r37.1, .inl r37.2.1, .inl f2, .inr 2, .inl f4, .inl r37.2.2.1, .inl f6, .inl f7, .inl f8, .inl f9]) (F' := [.inl r38.1, .inl r38.2, .inl f2, .inr 2, .inl f4, .inl r37.2.2.1, .inl f6, .inl f7, .inl f8, .inl f9]) (G := [g0, r37.2.2.2.1, r37.2.2.2.2, g3, g4, g5, g6]) (G' := [g0, r37.2.2.2.1, r37.2.2.2.2, g3, g4, g5, g6]) (ρ := [0, 1]) (φ := [0, 1, 2]) (ψ := [0]) [some 0, some 1, some 2, none, none, none, none, none, none, none] [some 0, none, none, none, none, none, none] zyw_LawReader_skip zyw_LawReader_readClause zye_LawReader_readClause (by decide +kernel) (zt_LawReader_skip hr38) ⟨⟨_, rfl, fun _ => rfl⟩, ⟨_, rfl, fun _ => rfl⟩, ⟨_, rfl, fun _ => rfl⟩, trivial⟩ ⟨rfl, trivial⟩ rfl rfl rfl rfl rfl rfl rfl) zd39_127 zxt46 rfl (by decide) (by decide) rfl ?_
                refine zv_ald hB zd39_130 rfl rfl rfl ?_
                refine zv_getq hB zd39_131 rfl rfl rfl ?_
                refine zv_ild hB zd39_134 rfl rfl ?_
                refine zv_ild hB zd39_135 rfl rfl ?_
                refine zv_ild hB zd39_136 rfl rfl ?_
                obtain ⟨r39, hr39, h⟩ := zi_bind h
                refine zv_cv hB (zv_emq (va2 := [.inr 2, .inl r2, .inl f5, .inl f5]) (F := [.inl r38.1, .inl r38.2, .inl f2, .inr 2, .inl f4, .inl r37.2.2.1, .inl f6, .inl f7, .inl f8, .inl f9]) (F' := [.inl r38.1, .inl r38.2, .inl f2, .inr 2, .inl r39.1, .inl r37.2.2.1, .inl r39.2.1, .inl r39.2.2.1, .inl r39.2.2.2.1, .inl r39.2.2.2.2.1]) (G := [g0, r37.2.2.2.1, r37.2.2.2.2, g3, g4, g5, g6]) (G' := [g0, r37.2.2.2.1, r37.2.2.2.2, r39.2.2.2.2.2.1, r39.2.2.2.2.2.2.1, r39.2.2.2.2.2.2.2.1, r39.2.2.2.2.2.2.2.2]) (ρ := [2, 5, 6, 7, 8, 3, 4]) (φ := [4, 5, 6, 7, 8, 9]) (ψ := [3, 4, 5, 6, 1, 2]) [none, none, none, none, some 0, some 1, some 2, some 3, some 4, some 5] [none, some 4, some 5, some 0, some 1, some 2, some 3] zyw_Law_addClause zyw_LawReader_readClause zye_LawReader_readClause (by decide +kernel) (zt_Law_addClause hr39) ⟨⟨_, rfl, fun _ => rfl⟩, ⟨_, rfl, fun _ => rfl⟩, ⟨_, rfl, fun _ => rfl⟩, ⟨_, rfl, fun _ => rfl⟩, ⟨_, rfl, fun _ => rfl⟩, ⟨_, rfl, fun _ => rfl⟩, trivial⟩ ⟨rfl, rfl, rfl, rfl, rfl, rfl, trivial⟩ rfl rfl rfl rfl rfl rfl rfl) zd39_138 zxt74 rfl (by decide) (by decide) rfl ?_
                have hw := Option.some.inj h
                subst hw
                exact hvret _ _ _ _ zd39_141 trivial ⟨rfl, rfl, rfl⟩
              · rw [if_pos hc34] at h
                refine zv_ald hB zd39_71 rfl rfl rfl ?_
                refine zv_con hB zd39_72 rfl ?_
                obtain ⟨r40, hr40, h⟩ := zi_bind h
                refine zv_cv hB (zv_emq (va2 := [.inr 0, .inl 4]) (F := [.inl f0, .inl f1, .inl f2, .inr 2, .inl f4, .inl f5, .inl f6, .inl f7, .inl f8, .inl f9]) (F' := [.inl r40, .inl f1, .inl f2, .inr 2, .inl f4, .inl f5, .inl f6, .inl f7, .inl f8, .inl f9]) (G := [g0, g1, g2, g3, g4, g5, g6]) (G' := [g0, g1, g2, g3, g4, g5, g6]) (ρ := [0]) (φ := [0, 1]) (ψ := []) [some 0, some 1, none, none, none, none, none, none, none, none] [none, none, none, none, none, none, none] zyw_LawReader_fail zyw_LawReader_readClause zye_LawReader_readClause (by decide +kernel) (zt_LawReader_fail hr40) ⟨⟨_, rfl, fun _ => rfl⟩, ⟨_, rfl, fun _ => rfl⟩, trivial⟩ trivial rfl rfl rfl rfl rfl rfl rfl) zd39_73 zxt41 rfl (by decide) (by decide) rfl ?_
                have hw := Option.some.inj h
                subst hw
                exact hvret _ _ _ _ zd39_76 trivial ⟨rfl, rfl, rfl⟩
            · rw [if_neg hc33] at h
              refine zv_ald hB zd39_53 rfl rfl rfl ?_
              refine zv_con hB zd39_54 rfl ?_
              obtain ⟨r41, hr41, h⟩ := zi_bind h
              refine zv_cv hB (zv_emq (va2 := [.inr 0, .inl 1]) (F := [.inl f0, .inl f1, .inl f2, .inr 2, .inl f4, .inl f5, .inl f6, .inl f7, .inl f8, .inl f9]) (F' := [.inl r41, .inl f1, .inl f2, .inr 2, .inl f4, .inl f5, .inl f6, .inl f7, .inl f8, .inl f9]) (G := [g0, g1, g2, g3, g4, g5, g6]) (G' := [g0, g1, g2, g3, g4, g5, g6]) (ρ := [0]) (φ := [0, 1]) (ψ := []) [some 0, some 1, none, none, none, none, none, none, none, none] [none, none, none, none, none, none, none] zyw_LawReader_fail zyw_LawReader_readClause zye_LawReader_readClause (by decide +kernel) (zt_LawReader_fail hr41) ⟨⟨_, rfl, fun _ => rfl⟩, ⟨_, rfl, fun _ => rfl⟩, trivial⟩ trivial rfl rfl rfl rfl rfl rfl rfl) zd39_55 zxt41 rfl (by decide) (by decide) rfl ?_
              have hw := Option.some.inj h
              subst hw
              exact hvret _ _ _ _ zd39_58 trivial ⟨rfl, rfl, rfl⟩
        · rw [if_pos hc23] at h
          refine zv_con hB zd39_31 rfl ?_
          refine zv_goto hB zd39_32 rfl ?_
          refine zv_ist hB zd39_36 rfl rfl rfl ?_
          refine zv_ild hB zd39_37 rfl rfl ?_
          refine zv_zne hB zd39_38 rfl (fun _ => ?_) (fun hc => absurd hc (by decide))
          refine zv_ald hB zd39_59 rfl rfl rfl ?_
          refine zv_getq hB zd39_60 rfl rfl rfl ?_
          refine zv_getf hB zd39_63 rfl rfl (fun _ _ => ?_)
          refine zv_con hB zd39_66 rfl ?_
          refine zv_cne hB zd39_68 rfl (fun hc43 => ?_) (fun hc43 => ?_)
          · rw [if_neg hc43] at h
            refine zv_ald hB zd39_77 rfl rfl rfl ?_
            refine zv_dup hB zd39_78 rfl ?_
            refine zv_getf hB zd39_79 rfl rfl (fun _ _ => ?_)
            refine zv_con hB zd39_82 rfl ?_
            refine zv_addw hB zd39_83 ?_
            refine zv_putf hB zd39_84 rfl rfl (fun h => by cases h) rfl ?_
            refine zv_ald hB zd39_87 rfl rfl rfl ?_
            refine zv_getq hB zd39_88 rfl rfl rfl ?_
            refine zv_getf hB zd39_91 rfl rfl (fun _ _ => ?_)
            refine zv_ist hB zd39_94 rfl rfl rfl ?_
            refine zv_ild hB zd39_95 rfl rfl ?_
            refine zv_zeq hB zd39_96 rfl (fun hc => absurd hc (by decide)) (fun _ => ?_)
            refine zv_ald hB zd39_99 rfl rfl rfl ?_
            refine zv_con hB zd39_100 rfl ?_
            obtain ⟨r45, hr45, h⟩ := zi_bind h
            refine zv_cv hB (zv_emq (va2 := [.inr 0, .inl 0]) (F := [.inl f0, .inl (zi_w (f1 + 1)), .inl f2, .inr 2, .inl f4, .inl f5, .inl f6, .inl f7, .inl f8, .inl f9]) (F' := [.inl r45.1, .inl r45.2.1, .inl f2, .inr 2, .inl f4, .inl r45.2.2.1, .inl f6, .inl f7, .inl f8, .inl f9]) (G := [g0, g1, g2, g3, g4, g5, g6]) (G' := [g0, r45.2.2.2.1, r45.2.2.2.2, g3, g4, g5, g6]) (ρ := [0, 1, 2, 3, 4]) (φ := [0, 1, 2, 3, 5]) (ψ := [0, 1, 2]) [some 0, some 1, some 2, some 3, none, some 4, none, none, none, none] [some 0, some 1, some 2, none, none, none, none] zyw_LawReader_readSum zyw_LawReader_readClause zye_LawReader_readClause (by decide +kernel) (zt_LawReader_readSum hr45) ⟨⟨_, rfl, fun _ => rfl⟩, ⟨_, rfl, fun _ => rfl⟩, ⟨_, rfl, fun _ => rfl⟩, ⟨_, rfl, fun _ => rfl⟩, ⟨_, rfl, fun _ => rfl⟩, trivial⟩ ⟨rfl, rfl, rfl, trivial⟩ rfl rfl rfl rfl rfl rfl rfl) zd39_101 zxt43 rfl (by decide) (by decide) rfl ?_
            refine zv_ald hB zd39_104 rfl rfl rfl ?_
            refine zv_getq hB zd39_105 rfl rfl rfl ?_
            refine zv_getf hB zd39_108 rfl rfl (fun _ _ => ?_)
            refine zv_ist hB zd39_111 rfl rfl rfl ?_
            refine zv_ald hB zd39_113 rfl rfl rfl ?_
            refine zv_con hB zd39_114 rfl ?_
            obtain ⟨r46, hr46, h⟩ := zi_bind h
            refine zv_cv hB (zv_emq (va2 := [.inr 0, .inl 40]) (F := [.inl r45.1, .inl r45.2.1, .inl f2, .inr 2, .inl f4, .inl r45.2.2.1, .inl f6, .inl f7, .inl f8, .inl f9]) (F' := [.inl r46.1, .inl r46.2, .inl f2, .inr 2, .inl f4, .inl r45.2.2.1, .inl f6, .inl f7, .inl f8, .inl f9]) (G := [g0, r45.2.2.2.1, r45.2.2.2.2, g3, g4, g5, g6]) (G' := [g0, r45.2.2.2.1, r45.2.2.2.2, g3, g4, g5, g6]) (ρ := [0, 1]) (φ := [0, 1, 2]) (ψ := [0]) [some 0, some 1, some 2, none, none, none, none, none, none, none] [some 0, none, none, none, none, none, none] zyw_LawReader_skip zyw_LawReader_readClause zye_LawReader_readClause (by decide +kernel) (zt_LawReader_skip hr46) ⟨⟨_, rfl, fun _ => rfl⟩, ⟨_, rfl, fun _ => rfl⟩, ⟨_, rfl, fun _ => rfl⟩, trivial⟩ ⟨rfl, trivial⟩ rfl rfl rfl rfl rfl rfl rfl) zd39_116 zxt46 rfl (by decide) (by decide) rfl ?_
            refine zv_ald hB zd39_119 rfl rfl rfl ?_
            refine zv_con hB zd39_120 rfl ?_
            obtain ⟨r47, hr47, h⟩ := zi_bind h
            refine zv_cv hB (zv_emq (va2 := [.inr 0, .inl 1]) (F := [.inl r46.1, .inl r46.2, .inl f2, .inr 2, .inl f4, .inl r45.2.2.1, .inl f6, .inl f7, .inl f8, .inl f9]) (F' := [.inl r47.1, .inl r47.2.1, .inl f2, .inr 2, .inl f4, .inl r47.2.2.1, .inl f6, .inl f7, .inl f8, .inl f9]) (G := [g0, r45.2.2.2.1, r45.2.2.2.2, g3, g4, g5, g6]) (G' := [g0, r47.2.2.2.1, r47.2.2.2.2, g3, g4, g5, g6]) (ρ := [0, 1, 2, 3, 4]) (φ := [0, 1, 2, 3, 5]) (ψ := [0, 1, 2]) [some 0, some 1, some 2, some 3, none, some 4, none, none, none, none] [some 0, some 1, some 2, none, none, none, none] zyw_LawReader_readCondition zyw_LawReader_readClause zye_LawReader_readClause (by decide +kernel) (zt_LawReader_readCondition hr47) ⟨⟨_, rfl, fun _ => rfl⟩, ⟨_, rfl, fun _ => rfl⟩, ⟨_, rfl, fun _ => rfl⟩, ⟨_, rfl, fun _ => rfl⟩, ⟨_, rfl, fun _ => rfl⟩, trivial⟩ ⟨rfl, rfl, rfl, trivial⟩ rfl rfl rfl rfl rfl rfl rfl) zd39_121 zxt69 rfl (by decide) (by decide) rfl ?_
            refine zv_ald hB zd39_124 rfl rfl rfl ?_
            refine zv_con hB zd39_125 rfl ?_
            obtain ⟨r48, hr48, h⟩ := zi_bind h
            refine zv_cv hB (zv_emq (va2 := [.inr 0, .inl 41]) (F := [.inl r47.1, .inl r47.2.1, .inl f2, .inr 2, .inl f4, .inl r47.2.2.1, .inl f6, .inl f7, .inl f8, .inl f9]) (F' := [.inl r48.1, .inl r48.2, .inl f2, .inr 2, .inl f4, .inl r47.2.2.1, .inl f6, .inl f7, .inl f8, .inl f9]) (G := [g0, r47.2.2.2.1, r47.2.2.2.2, g3, g4, g5, g6]) (G' := [g0, r47.2.2.2.1, r47.2.2.2.2, g3, g4, g5, g6]) (ρ := [0, 1]) (φ := [0, 1, 2]) (ψ := [0]) [some 0, some 1, some 2, none, none, none, none, none, none, none] [some 0, none, none, none, none, none, none] zyw_LawReader_skip zyw_LawReader_readClause zye_LawReader_readClause (by decide +kernel) (zt_LawReader_skip hr48) ⟨⟨_, rfl, fun _ => rfl⟩, ⟨_, rfl, fun _ => rfl⟩, ⟨_, rfl, fun _ => rfl⟩, trivial⟩ ⟨rfl, trivial⟩ rfl rfl rfl rfl rfl rfl rfl) zd39_127 zxt46 rfl (by decide) (by decide) rfl ?_
            refine zv_ald hB zd39_130 rfl rfl rfl ?_
            refine zv_getq hB zd39_131 rfl rfl rfl ?_
            refine zv_ild hB zd39_134 rfl rfl ?_
            refine zv_ild hB zd39_135 rfl rfl ?_
            refine zv_ild hB zd39_136 rfl rfl ?_
            obtain ⟨r49, hr49, h⟩ := zi_bind h
            refine zv_cv hB (zv_emq (va2 := [.inr 2, .inl r2, .inl f5, .inl r45.2.2.1]) (F := [.inl r48.1, .inl r48.2, .inl f2, .inr 2, .inl f4, .inl r47.2.2.1, .inl f6, .inl f7, .inl f8, .inl f9]) (F' := [.inl r48.1, .inl r48.2, .inl f2, .inr 2, .inl r49.1, .inl r47.2.2.1, .inl r49.2.1, .inl r49.2.2.1, .inl r49.2.2.2.1, .inl r49.2.2.2.2.1]) (G := [g0, r47.2.2.2.1, r47.2.2.2.2, g3, g4, g5, g6]) (G' := [g0, r47.2.2.2.1, r47.2.2.2.2, r49.2.2.2.2.2.1, r49.2.2.2.2.2.2.1, r49.2.2.2.2.2.2.2.1, r49.2.2.2.2.2.2.2.2]) (ρ := [2, 5, 6, 7, 8, 3, 4]) (φ := [4, 5, 6, 7, 8, 9]) (ψ := [3, 4, 5, 6, 1, 2]) [none, none, none, none, some 0, some 1, some 2, some 3, some 4, some 5] [none, some 4, some 5, some 0, some 1, some 2, some 3] zyw_Law_addClause zyw_LawReader_readClause zye_LawReader_readClause (by decide +kernel) (zt_Law_addClause hr49) ⟨⟨_, rfl, fun _ => rfl⟩, ⟨_, rfl, fun _ => rfl⟩, ⟨_, rfl, fun _ => rfl⟩, ⟨_, rfl, fun _ => rfl⟩, ⟨_, rfl, fun _ => rfl⟩, ⟨_, rfl, fun _ => rfl⟩, trivial⟩ ⟨rfl, rfl, rfl, rfl, rfl, rfl, trivial⟩ rfl rfl rfl rfl rfl rfl rfl) zd39_138 zxt74 rfl (by decide) (by decide) rfl ?_
            have hw := Option.some.inj h
            subst hw
            exact hvret _ _ _ _ zd39_141 trivial ⟨rfl, rfl, rfl⟩
          · rw [if_pos hc43] at h
            refine zv_ald hB zd39_71 rfl rfl rfl ?_
            refine zv_con hB zd39_72 rfl ?_
            obtain ⟨r50, hr50, h⟩ := zi_bind h
            refine zv_cv hB (zv_emq (va2 := [.inr 0, .inl 4]) (F := [.inl f0, .inl f1, .inl f2, .inr 2, .inl f4, .inl f5, .inl f6, .inl f7, .inl f8, .inl f9]) (F' := [.inl r50, .inl f1, .inl f2, .inr 2, .inl f4, .inl f5, .inl f6, .inl f7, .inl f8, .inl f9]) (G := [g0, g1, g2, g3, g4, g5, g6]) (G' := [g0, g1, g2, g3, g4, g5, g6]) (ρ := [0]) (φ := [0, 1]) (ψ := []) [some 0, some 1, none, none, none, none, none, none, none, none] [none, none, none, none, none, none, none] zyw_LawReader_fail zyw_LawReader_readClause zye_LawReader_readClause (by decide +kernel) (zt_LawReader_fail hr50) ⟨⟨_, rfl, fun _ => rfl⟩, ⟨_, rfl, fun _ => rfl⟩, trivial⟩ trivial rfl rfl rfl rfl rfl rfl rfl) zd39_73 zxt41 rfl (by decide) (by decide) rfl ?_
            have hw := Option.some.inj h
            subst hw
            exact hvret _ _ _ _ zd39_76 trivial ⟨rfl, rfl, rfl⟩
  · rw [if_neg hc1] at h
    have hw := Option.some.inj h
    subst hw
    exact hvret _ _ _ _ zd39_7 trivial ⟨rfl, rfl, rfl⟩
end
section
/-! Methods as functions, and that they do what these do. -/
/-! LawReader_read (ILStarTales$Law;)I -/
-- names: 0 LawReader('arg', 0), 1 Law('arg', 2), 2 (0, 220)(0, 5, 0), 3 (0, 200)(1, 4, 0), 4 (0, 200)(1, 4, 1), 5 (0, 14)(1, 4, 3), 6 (0, 14)(1, 4, 4), 7 (0, 14)(1, 4, 5), 8 (0, 14)(1, 4, 6)
-- fields: f0 = 0.length_, f1 = 0.at_, f2 = 0.fault_, f3 = 0.law_, f4 = 1.steps_, f5 = 1.clauses_, f6 = 1.tellsSeen_, f7 = 1.tellsLines_, f8 = 1.seenByPlace_, f9 = 1.linesByPlace_; arrays: g0 = 2, g1 = 3, g2 = 4, g3 = 5, g4 = 6, g5 = 7, g6 = 8; out: [('ret', None), ('f', 0), ('f', 1), ('f', 2), ('f', 4), ('f', 5), ('f', 6), ('f', 7), ('f', 8), ('f', 9), ('g', 1), ('g', 2), ('g', 3), ('g', 4), ('g', 5), ('g', 6)]
abbrev zy_LawReader_read : zNL := (9, [(0, 5), (1, 4)], [(0, 5, 1, 0), (0, 5, 2, 1), (0, 5, 3, 2), (0, 5, 4, 3), (1, 4, 2, 4), (1, 4, 7, 5), (1, 4, 8, 6), (1, 4, 9, 7), (1, 4, 10, 8), (1, 4, 11, 9)], [(0, 5, 0, 2), (1, 4, 0, 3), (1, 4, 1, 4), (1, 4, 3, 5), (1, 4, 4, 6), (1, 4, 5, 7), (1, 4, 6, 8)], [(2, 0, 220, 0), (3, 0, 200, 1), (4, 0, 200, 2), (5, 0, 14, 3), (6, 0, 14, 4), (7, 0, 14, 5), (8, 0, 14, 6)])
theorem zyw_LawReader_read : zv_wf zy_LawReader_read = true := by decide +kernel
theorem zye_LawReader_read : zv_ek2 zy_LawReader_read = true := by decide +kernel
def zf_LawReader_read_l0_b (f0 : Int) (g0 : (Int → Int)) (rec : Int → Int → Int → Int → Int → Int → Int → Int → Int → (Int → Int) → (Int → Int) → (Int → Int) → (Int → Int) → (Int → Int) → (Int → Int) → Option (Int × Int × Int × Int × Int × Int × Int × Int × (Int → Int) × (Int → Int) × (Int → Int) × (Int → Int) × (Int → Int) × (Int → Int))) (x3 : Int) (f1 : Int) (f2 : Int) (f4 : Int) (f5 : Int) (f6 : Int) (f7 : Int) (f8 : Int) (f9 : Int) (g1 : (Int → Int)) (g2 : (Int → Int)) (g3 : (Int → Int)) (g4 : (Int → Int)) (g5 : (Int → Int)) (g6 : (Int → Int)) : Option (Int × Int × Int × Int × Int × Int × Int × Int × (Int → Int) × (Int → Int) × (Int → Int) × (Int → Int) × (Int → Int) × (Int → Int)) := if x3 < 14 then (if f2 = 0 then (if f1 < f0 then ((zf_LawReader_skip 59 f2 f1 f0 g0).bind fun r7 => ((zf_LawReader_readClause r7.1 r7.2 f0 f5 f4 f7 f9 f6 f8 g0 g1 g2 g3 g4 g5 g6).bind fun r8 => (rec (zi_w (x3 + 1)) r8.2.1 r8.1 r8.2.2.2.1 r8.2.2.1 r8.2.2.2.2.2.2.1 r8.2.2.2.2.1 r8.2.2.2.2.2.2.2.1 r8.2.2.2.2.2.1 r8.2.2.2.2.2.2.2.2.1 r8.2.2.2.2.2.2.2.2.2.1 r8.2.2.2.2.2.2.2.2.2.2.1 r8.2.2.2.2.2.2.2.2.2.2.2.1 r8.2.2.2.2.2.2.2.2.2.2.2.2.1 r8.2.2.2.2.2.2.2.2.2.2.2.2.2))) else (some (f1, f2, f4, f5, f6, f7, f8, f9, g1, g2, g3, g4, g5, g6))) else (some (f1, f2, f4, f5, f6, f7, f8, f9, g1, g2, g3, g4, g5, g6))) else (some (f1, f2, f4, f5, f6, f7, f8, f9, g1, g2, g3, g4, g5, g6))
def zf_LawReader_read_l0 (f0 : Int) (g0 : (Int → Int)) : Nat → Int → Int → Int → Int → Int → Int → Int → Int → Int → (Int → Int) → (Int → Int) → (Int → Int) → (Int → Int) → (Int → Int) → (Int → Int) → Option (Int × Int × Int × Int × Int × Int × Int × Int × (Int → Int) × (Int → Int) × (Int → Int) × (Int → Int) × (Int → Int) × (Int → Int))
  | 0, _, _, _, _, _, _, _, _, _, _, _, _, _, _, _ => none
  | n + 1, x3, f1, f2, f4, f5, f6, f7, f8, f9, g1, g2, g3, g4, g5, g6 => zf_LawReader_read_l0_b f0 g0 (zf_LawReader_read_l0 f0 g0 n) x3 f1 f2 f4 f5 f6 f7 f8 f9 g1 g2 g3 g4 g5 g6
def zf_LawReader_read (x1 : Int) (f0 : Int) (f1 : Int) (f2 : Int) (f4 : Int) (f5 : Int) (f6 : Int) (f7 : Int) (f8 : Int) (f9 : Int) (g0 : (Int → Int)) (g1 : (Int → Int)) (g2 : (Int → Int)) (g3 : (Int → Int)) (g4 : (Int → Int)) (g5 : (Int → Int)) (g6 : (Int → Int)) : Option (Int × Int × Int × Int × Int × Int × Int × Int × Int × Int × (Int → Int) × (Int → Int) × (Int → Int) × (Int → Int) × (Int → Int) × (Int → Int)) := (zf_Math_min x1 220).bind fun r1 => ((zf_Law_clear f4 f5 f6 f7 f8 f9).bind fun r2 => ((zf_LawReader_readClause 0 0 r1 r2.2.1 r2.1 r2.2.2.2.1 r2.2.2.2.2.2 r2.2.2.1 r2.2.2.2.2.1 g0 g1 g2 g3 g4 g5 g6).bind fun r3 => ((zf_LawReader_read_l0 r1 g0 zi_fu 0 r3.2.1 r3.1 r3.2.2.2.1 r3.2.2.1 r3.2.2.2.2.2.2.1 r3.2.2.2.2.1 r3.2.2.2.2.2.2.2.1 r3.2.2.2.2.2.1 r3.2.2.2.2.2.2.2.2.1 r3.2.2.2.2.2.2.2.2.2.1 r3.2.2.2.2.2.2.2.2.2.2.1 r3.2.2.2.2.2.2.2.2.2.2.2.1 r3.2.2.2.2.2.2.2.2.2.2.2.2.1 r3.2.2.2.2.2.2.2.2.2.2.2.2.2).bind fun q9 => (if q9.2.1 = 0 then (some (q9.2.2.2.1, r1, q9.1, q9.2.1, q9.2.2.1, q9.2.2.2.1, q9.2.2.2.2.1, q9.2.2.2.2.2.1, q9.2.2.2.2.2.2.1, q9.2.2.2.2.2.2.2.1, q9.2.2.2.2.2.2.2.2.1, q9.2.2.2.2.2.2.2.2.2.1, q9.2.2.2.2.2.2.2.2.2.2.1, q9.2.2.2.2.2.2.2.2.2.2.2.1, q9.2.2.2.2.2.2.2.2.2.2.2.2.1, q9.2.2.2.2.2.2.2.2.2.2.2.2.2)) else (some (q9.2.1, r1, q9.1, q9.2.1, q9.2.2.1, q9.2.2.2.1, q9.2.2.2.2.1, q9.2.2.2.2.2.1, q9.2.2.2.2.2.2.1, q9.2.2.2.2.2.2.2.1, q9.2.2.2.2.2.2.2.2.1, q9.2.2.2.2.2.2.2.2.2.1, q9.2.2.2.2.2.2.2.2.2.2.1, q9.2.2.2.2.2.2.2.2.2.2.2.1, q9.2.2.2.2.2.2.2.2.2.2.2.2.1, q9.2.2.2.2.2.2.2.2.2.2.2.2.2))))))
theorem zd36_0 : decode zxm36.2.1 0 = .ok (.aload_n 0, 1) := by decide +kernel
theorem zd36_1 : decode zxm36.2.1 1 = .ok (.iload_n 1, 1) := by decide +kernel
theorem zd36_2 : decode zxm36.2.1 2 = .ok (.aload_n 0, 1) := by decide +kernel
theorem zd36_3 : decode zxm36.2.1 3 = .ok (.getfield 21, 3) := by decide +kernel
theorem zd36_6 : decode zxm36.2.1 6 = .ok (.arraylength, 1) := by decide +kernel
theorem zd36_7 : decode zxm36.2.1 7 = .ok (.invokestatic 29, 3) := by decide +kernel
theorem zd36_10 : decode zxm36.2.1 10 = .ok (.putfield 9, 3) := by decide +kernel
theorem zd36_13 : decode zxm36.2.1 13 = .ok (.aload_n 0, 1) := by decide +kernel
theorem zd36_14 : decode zxm36.2.1 14 = .ok (.iconst 0, 1) := by decide +kernel
theorem zd36_15 : decode zxm36.2.1 15 = .ok (.putfield 15, 3) := by decide +kernel
theorem zd36_18 : decode zxm36.2.1 18 = .ok (.aload_n 0, 1) := by decide +kernel
theorem zd36_19 : decode zxm36.2.1 19 = .ok (.iconst 0, 1) := by decide +kernel
theorem zd36_20 : decode zxm36.2.1 20 = .ok (.putfield 18, 3) := by decide +kernel
theorem zd36_23 : decode zxm36.2.1 23 = .ok (.aload_n 0, 1) := by decide +kernel
theorem zd36_24 : decode zxm36.2.1 24 = .ok (.aload_n 2, 1) := by decide +kernel
theorem zd36_25 : decode zxm36.2.1 25 = .ok (.putfield 25, 3) := by decide +kernel
theorem zd36_28 : decode zxm36.2.1 28 = .ok (.aload_n 0, 1) := by decide +kernel
theorem zd36_29 : decode zxm36.2.1 29 = .ok (.getfield 25, 3) := by decide +kernel
theorem zd36_32 : decode zxm36.2.1 32 = .ok (.invokevirtual 35, 3) := by decide +kernel
theorem zd36_35 : decode zxm36.2.1 35 = .ok (.aload_n 0, 1) := by decide +kernel
theorem zd36_36 : decode zxm36.2.1 36 = .ok (.invokevirtual 40, 3) := by decide +kernel
theorem zd36_39 : decode zxm36.2.1 39 = .ok (.iconst 0, 1) := by decide +kernel
theorem zd36_40 : decode zxm36.2.1 40 = .ok (.istore_n 3, 1) := by decide +kernel
theorem zd36_41 : decode zxm36.2.1 41 = .ok (.iload_n 3, 1) := by decide +kernel
theorem zd36_42 : decode zxm36.2.1 42 = .ok (.bipush 14, 2) := by decide +kernel
theorem zd36_44 : decode zxm36.2.1 44 = .ok (.if_icmp .ge 37, 3) := by decide +kernel
theorem zd36_47 : decode zxm36.2.1 47 = .ok (.aload_n 0, 1) := by decide +kernel
theorem zd36_48 : decode zxm36.2.1 48 = .ok (.getfield 18, 3) := by decide +kernel
theorem zd36_51 : decode zxm36.2.1 51 = .ok (.ifCond .ne 30, 3) := by decide +kernel
theorem zd36_54 : decode zxm36.2.1 54 = .ok (.aload_n 0, 1) := by decide +kernel
theorem zd36_55 : decode zxm36.2.1 55 = .ok (.getfield 15, 3) := by decide +kernel
theorem zd36_58 : decode zxm36.2.1 58 = .ok (.aload_n 0, 1) := by decide +kernel
theorem zd36_59 : decode zxm36.2.1 59 = .ok (.getfield 9, 3) := by decide +kernel
theorem zd36_62 : decode zxm36.2.1 62 = .ok (.if_icmp .ge 19, 3) := by decide +kernel
theorem zd36_65 : decode zxm36.2.1 65 = .ok (.aload_n 0, 1) := by decide +kernel
theorem zd36_66 : decode zxm36.2.1 66 = .ok (.bipush 59, 2) := by decide +kernel
theorem zd36_68 : decode zxm36.2.1 68 = .ok (.invokevirtual 43, 3) := by decide +kernel
theorem zd36_71 : decode zxm36.2.1 71 = .ok (.aload_n 0, 1) := by decide +kernel
theorem zd36_72 : decode zxm36.2.1 72 = .ok (.invokevirtual 40, 3) := by decide +kernel
theorem zd36_75 : decode zxm36.2.1 75 = .ok (.iinc 3 1, 3) := by decide +kernel
theorem zd36_78 : decode zxm36.2.1 78 = .ok (.goto (-37), 3) := by decide +kernel
theorem zd36_81 : decode zxm36.2.1 81 = .ok (.aload_n 0, 1) := by decide +kernel
theorem zd36_82 : decode zxm36.2.1 82 = .ok (.getfield 18, 3) := by decide +kernel
theorem zd36_85 : decode zxm36.2.1 85 = .ok (.ifCond .eq 10, 3) := by decide +kernel
theorem zd36_88 : decode zxm36.2.1 88 = .ok (.aload_n 0, 1) := by decide +kernel
theorem zd36_89 : decode zxm36.2.1 89 = .ok (.getfield 18, 3) := by decide +kernel
theorem zd36_92 : decode zxm36.2.1 92 = .ok (.goto 10, 3) := by decide +kernel
theorem zd36_95 : decode zxm36.2.1 95 = .ok (.aload_n 0, 1) := by decide +kernel
theorem zd36_96 : decode zxm36.2.1 96 = .ok (.getfield 25, 3) := by decide +kernel
theorem zd36_99 : decode zxm36.2.1 99 = .ok (.getfield 47, 3) := by decide +kernel
theorem zd36_102 : decode zxm36.2.1 102 = .ok (.ireturn, 1) := by decide +kernel
theorem zt_LawReader_read {x1 : Int} {f0 : Int} {f1 : Int} {f2 : Int} {f4 : Int} {f5 : Int} {f6 : Int} {f7 : Int} {f8 : Int} {f9 : Int} {g0 : (Int → Int)} {g1 : (Int → Int)} {g2 : (Int → Int)} {g3 : (Int → Int)} {g4 : (Int → Int)} {g5 : (Int → Int)} {g6 : (Int → Int)} {o : Int × Int × Int × Int × Int × Int × Int × Int × Int × Int × (Int → Int) × (Int → Int) × (Int → Int) × (Int → Int) × (Int → Int) × (Int → Int)} (h : zf_LawReader_read x1 f0 f1 f2 f4 f5 f6 f7 f8 f9 g0 g1 g2 g3 g4 g5 g6 = some o) : zv_Fn z_TB z_cl z_KX zy_LawReader_read zxm36 (80, 4800) [.inr 0, .inl x1, .inr 1] [.inl f0, .inl f1, .inl f2, .inr 1000, .inl f4, .inl f5, .inl f6, .inl f7, .inl f8, .inl f9] [g0, g1, g2, g3, g4, g5, g6] (some o.1) [.inl o.2.1, .inl o.2.2.1, .inl o.2.2.2.1, .inr 1, .inl o.2.2.2.2.1, .inl o.2.2.2.2.2.1, .inl o.2.2.2.2.2.2.1, .inl o.2.2.2.2.2.2.2.1, .inl o.2.2.2.2.2.2.2.2.1, .inl o.2.2.2.2.2.2.2.2.2.1] [g0, o.2.2.2.2.2.2.2.2.2.2.1, o.2.2.2.2.2.2.2.2.2.2.2.1, o.2.2.2.2.2.2.2.2.2.2.2.2.1, o.2.2.2.2.2.2.2.2.2.2.2.2.2.1, o.2.2.2.2.2.2.2.2.2.2.2.2.2.2.1, o.2.2.2.2.2.2.2.2.2.2.2.2.2.2.2] := zv_meth (K := (z_KF3, z_KC3, z_KL3, z_KT3, [], [], [], none)) (FT := z_FT) (MT := z_MT) (n := 3) zxp36 (z_ks3 _ (fun _ h => List.mem_cons_of_mem _ h) _ _ _ _ (fun j r h _ => by cases h)) (fun _ _ => zs_KX_p) zyw_LawReader_read (fun va F G h => by obtain ⟨rfl, _⟩ := h; rfl) (fun va F G h => by obtain ⟨rfl, _⟩ := h; rfl) rfl fun good va F G hB hret hvret hP => by
  obtain ⟨rfl, rfl, rfl⟩ := hP
  have l0 : ∀ (n : Nat) (x3 : Int) (f0 : Int) (f1 : Int) (f2 : Int) (f4 : Int) (f5 : Int) (f6 : Int) (f7 : Int) (f8 : Int) (f9 : Int) (g1 : (Int → Int)) (g2 : (Int → Int)) (g3 : (Int → Int)) (g4 : (Int → Int)) (g5 : (Int → Int)) (g6 : (Int → Int)) (q : Int × Int × Int × Int × Int × Int × Int × Int × (Int → Int) × (Int → Int) × (Int → Int) × (Int → Int) × (Int → Int) × (Int → Int)), zf_LawReader_read_l0 f0 g0 n x3 f1 f2 f4 f5 f6 f7 f8 f9 g1 g2 g3 g4 g5 g6 = some q → (good 81 [.inr 0, .inr 1000, .inr 1000, .inr 1000] [] [.inl f0, .inl q.1, .inl q.2.1, .inr 1, .inl q.2.2.1, .inl q.2.2.2.1, .inl q.2.2.2.2.1, .inl q.2.2.2.2.2.1, .inl q.2.2.2.2.2.2.1, .inl q.2.2.2.2.2.2.2.1] [g0, q.2.2.2.2.2.2.2.2.1, q.2.2.2.2.2.2.2.2.2.1, q.2.2.2.2.2.2.2.2.2.2.1, q.2.2.2.2.2.2.2.2.2.2.2.1, q.2.2.2.2.2.2.2.2.2.2.2.2.1, q.2.2.2.2.2.2.2.2.2.2.2.2.2]) → good 41 [.inr 0, .inr 1000, .inr 1000, .inl x3] [] [.inl f0, .inl f1, .inl f2, .inr 1, .inl f4, .inl f5, .inl f6, .inl f7, .inl f8, .inl f9] [g0, g1, g2, g3, g4, g5, g6] := by
    intro n
    induction n with
    | zero => intro x3 f0 f1 f2 f4 f5 f6 f7 f8 f9 g1 g2 g3 g4 g5 g6 q h; exact absurd (show none = some q from h) (fun h => by cases h)
    | succ n ih =>
      intro x3 f0 f1 f2 f4 f5 f6 f7 f8 f9 g1 g2 g3 g4 g5 g6 q h hK
      replace h : zf_LawReader_read_l0_b f0 g0 (zf_LawReader_read_l0 f0 g0 n) x3 f1 f2 f4 f5 f6 f7 f8 f9 g1 g2 g3 g4 g5 g6 = some q := h
      unfold zf_LawReader_read_l0_b at h
      refine zv_ild hB zd36_41 rfl rfl ?_
      refine zv_con hB zd36_42 rfl ?_
      refine zv_cge hB zd36_44 rfl (fun hc4 => ?_) (fun hc4 => ?_)
      · rw [if_neg (Int.not_lt.mpr hc4)] at h
        have hq := Option.some.inj h
        subst hq
        refine zv_wk hB (L' := [.inr 0, .inr 1000, .inr 1000, .inr 1000]) (F' := [.inl f0, .inl f1, .inl f2, .inr 1, .inl f4, .inl f5, .inl f6, .inl f7, .inl f8, .inl f9]) ⟨fun _ => rfl, fun (h : zv_is (.inr 1000)) => (Nat.lt_irrefl 1000 h).elim, fun (h : zv_is (.inr 1000)) => (Nat.lt_irrefl 1000 h).elim, fun (h : zv_is (.inr 1000)) => (Nat.lt_irrefl 1000 h).elim, trivial⟩ ⟨fun _ => rfl, fun _ => rfl, fun _ => rfl, fun _ => rfl, fun _ => rfl, fun _ => rfl, fun _ => rfl, fun _ => rfl, fun _ => rfl, fun _ => rfl, trivial⟩ ?_
        exact hK
      · rw [if_pos hc4] at h
        refine zv_ald hB zd36_47 rfl rfl rfl ?_
        refine zv_getf hB zd36_48 rfl rfl (fun _ _ => ?_)
        refine zv_zne hB zd36_51 rfl (fun hc5 => ?_) (fun hc5 => ?_)
        · rw [if_neg hc5] at h
          have hq := Option.some.inj h
          subst hq
          refine zv_wk hB (L' := [.inr 0, .inr 1000, .inr 1000, .inr 1000]) (F' := [.inl f0, .inl f1, .inl f2, .inr 1, .inl f4, .inl f5, .inl f6, .inl f7, .inl f8, .inl f9]) ⟨fun _ => rfl, fun (h : zv_is (.inr 1000)) => (Nat.lt_irrefl 1000 h).elim, fun (h : zv_is (.inr 1000)) => (Nat.lt_irrefl 1000 h).elim, fun (h : zv_is (.inr 1000)) => (Nat.lt_irrefl 1000 h).elim, trivial⟩ ⟨fun _ => rfl, fun _ => rfl, fun _ => rfl, fun _ => rfl, fun _ => rfl, fun _ => rfl, fun _ => rfl, fun _ => rfl, fun _ => rfl, fun _ => rfl, trivial⟩ ?_
          exact hK
        · rw [if_pos hc5] at h
          refine zv_ald hB zd36_54 rfl rfl rfl ?_
          refine zv_getf hB zd36_55 rfl rfl (fun _ _ => ?_)
          refine zv_ald hB zd36_58 rfl rfl rfl ?_
          refine zv_getf hB zd36_59 rfl rfl (fun _ _ => ?_)
          refine zv_cge hB zd36_62 rfl (fun hc6 => ?_) (fun hc6 => ?_)
          · rw [if_neg (Int.not_lt.mpr hc6)] at h
            have hq := Option.some.inj h
            subst hq
            refine zv_wk hB (L' := [.inr 0, .inr 1000, .inr 1000, .inr 1000]) (F' := [.inl f0, .inl f1, .inl f2, .inr 1, .inl f4, .inl f5, .inl f6, .inl f7, .inl f8, .inl f9]) ⟨fun _ => rfl, fun (h : zv_is (.inr 1000)) => (Nat.lt_irrefl 1000 h).elim, fun (h : zv_is (.inr 1000)) => (Nat.lt_irrefl 1000 h).elim, fun (h : zv_is (.inr 1000)) => (Nat.lt_irrefl 1000 h).elim, trivial⟩ ⟨fun _ => rfl, fun _ => rfl, fun _ => rfl, fun _ => rfl, fun _ => rfl, fun _ => rfl, fun _ => rfl, fun _ => rfl, fun _ => rfl, fun _ => rfl, trivial⟩ ?_
            exact hK
          · rw [if_pos hc6] at h
            refine zv_ald hB zd36_65 rfl rfl rfl ?_
            refine zv_con hB zd36_66 rfl ?_
            obtain ⟨r7, hr7, h⟩ := zi_bind h
            refine zv_cv hB (zv_emq (va2 := [.inr 0, .inl 59]) (F := [.inl f0, .inl f1, .inl f2, .inr 1, .inl f4, .inl f5, .inl f6, .inl f7, .inl f8, .inl f9]) (F' := [.inl f0, .inl r7.2, .inl r7.1, .inr 1, .inl f4, .inl f5, .inl f6, .inl f7, .inl f8, .inl f9]) (G := [g0, g1, g2, g3, g4, g5, g6]) (G' := [g0, g1, g2, g3, g4, g5, g6]) (ρ := [0, 2]) (φ := [2, 1, 0]) (ψ := [0]) [some 2, some 1, some 0, none, none, none, none, none, none, none] [some 0, none, none, none, none, none, none] zyw_LawReader_skip zyw_LawReader_read zye_LawReader_read (by decide +kernel) (zt_LawReader_skip hr7) ⟨⟨_, rfl, fun _ => rfl⟩, ⟨_, rfl, fun _ => rfl⟩, ⟨_, rfl, fun _ => rfl⟩, trivial⟩ ⟨rfl, trivial⟩ rfl rfl rfl rfl rfl rfl rfl) zd36_68 zxt46 rfl (by decide) (by decide) rfl ?_
            refine zv_ald hB zd36_71 rfl rfl rfl ?_
            obtain ⟨r8, hr8, h⟩ := zi_bind h
            refine zv_cv hB (zv_emq (va2 := [.inr 0]) (F := [.inl f0, .inl r7.2, .inl r7.1, .inr 1, .inl f4, .inl f5, .inl f6, .inl f7, .inl f8, .inl f9]) (F' := [.inl f0, .inl r8.2.1, .inl r8.1, .inr 1, .inl r8.2.2.2.1, .inl r8.2.2.1, .inl r8.2.2.2.2.2.2.1, .inl r8.2.2.2.2.1, .inl r8.2.2.2.2.2.2.2.1, .inl r8.2.2.2.2.2.1]) (G := [g0, g1, g2, g3, g4, g5, g6]) (G' := [g0, r8.2.2.2.2.2.2.2.2.1, r8.2.2.2.2.2.2.2.2.2.1, r8.2.2.2.2.2.2.2.2.2.2.1, r8.2.2.2.2.2.2.2.2.2.2.2.1, r8.2.2.2.2.2.2.2.2.2.2.2.2.1, r8.2.2.2.2.2.2.2.2.2.2.2.2.2]) (ρ := [0, 2, 1, 3, 4, 5, 6, 7, 8]) (φ := [2, 1, 0, 3, 5, 4, 7, 9, 6, 8]) (ψ := [0, 1, 2, 3, 4, 5, 6]) [some 2, some 1, some 0, some 3, some 5, some 4, some 8, some 6, some 9, some 7] [some 0, some 1, some 2, some 3, some 4, some 5, some 6] zyw_LawReader_readClause zyw_LawReader_read zye_LawReader_read (by decide +kernel) (zt_LawReader_readClause hr8) ⟨⟨_, rfl, fun _ => rfl⟩, ⟨_, rfl, fun _ => rfl⟩, ⟨_, rfl, fun _ => rfl⟩, ⟨_, rfl, fun _ => rfl⟩, ⟨_, rfl, fun _ => rfl⟩, ⟨_, rfl, fun _ => rfl⟩, ⟨_, rfl, fun _ => rfl⟩, ⟨_, rfl, fun _ => rfl⟩, ⟨_, rfl, fun _ => rfl⟩, ⟨_, rfl, fun _ => rfl⟩, trivial⟩ ⟨rfl, rfl, rfl, rfl, rfl, rfl, rfl, trivial⟩ rfl rfl rfl rfl rfl rfl rfl) zd36_72 zxt39 rfl (by decide) (by decide) rfl ?_
            refine zv_iincw hB zd36_75 rfl rfl ?_
            refine zv_goto hB zd36_78 rfl ?_
            exact ih _ _ _ _ _ _ _ _ _ _ _ _ _ _ _ _ q h hK
  unfold zf_LawReader_read at h
  refine zv_ald hB zd36_0 rfl rfl rfl ?_
  refine zv_ild hB zd36_1 rfl rfl ?_
  refine zv_ald hB zd36_2 rfl rfl rfl ?_
  refine zv_getr hB zd36_3 rfl ?_
  refine zv_alen (v := 220) hB zd36_6 rfl rfl rfl rfl ?_
  obtain ⟨r1, hr1, h⟩ := zi_bind h
  refine zv_cs hB (zv_emq (va2 := [.inl x1, .inl 220]) (F := [.inl f0, .inl f1, .inl f2, .inr 1000, .inl f4, .inl f5, .inl f6, .inl f7, .inl f8, .inl f9]) (F' := [.inl f0, .inl f1, .inl f2, .inr 1000, .inl f4, .inl f5, .inl f6, .inl f7, .inl f8, .inl f9]) (G := [g0, g1, g2, g3, g4, g5, g6]) (G' := [g0, g1, g2, g3, g4, g5, g6]) (ρ := []) (φ := []) (ψ := []) [none, none, none, none, none, none, none, none, none, none] [none, none, none, none, none, none, none] zyw_Math_min zyw_LawReader_read zye_LawReader_read (by decide +kernel) (zt_Math_min hr1) trivial trivial rfl rfl rfl rfl rfl rfl rfl) zd36_7 zxt37 rfl (by decide) (by decide) rfl ?_
  refine zv_putf hB zd36_10 rfl rfl (fun h => by cases h) rfl ?_
  refine zv_ald hB zd36_13 rfl rfl rfl ?_
  refine zv_con hB zd36_14 rfl ?_
  refine zv_putf hB zd36_15 rfl rfl (fun h => by cases h) rfl ?_
  refine zv_ald hB zd36_18 rfl rfl rfl ?_
  refine zv_con hB zd36_19 rfl ?_
  refine zv_putf hB zd36_20 rfl rfl (fun h => by cases h) rfl ?_
  refine zv_ald hB zd36_23 rfl rfl rfl ?_
  refine zv_ald hB zd36_24 rfl rfl rfl ?_
  refine zv_putq hB zd36_25 rfl rfl (by decide) rfl ?_
  refine zv_ald hB zd36_28 rfl rfl rfl ?_
  refine zv_getq hB zd36_29 rfl rfl rfl ?_
  obtain ⟨r2, hr2, h⟩ := zi_bind h
  refine zv_cv hB (zv_emq (va2 := [.inr 1]) (F := [.inl r1, .inl 0, .inl 0, .inr 1, .inl f4, .inl f5, .inl f6, .inl f7, .inl f8, .inl f9]) (F' := [.inl r1, .inl 0, .inl 0, .inr 1, .inl r2.1, .inl r2.2.1, .inl r2.2.2.1, .inl r2.2.2.2.1, .inl r2.2.2.2.2.1, .inl r2.2.2.2.2.2]) (G := [g0, g1, g2, g3, g4, g5, g6]) (G' := [g0, g1, g2, g3, g4, g5, g6]) (ρ := [1]) (φ := [4, 5, 6, 7, 8, 9]) (ψ := []) [none, none, none, none, some 0, some 1, some 2, some 3, some 4, some 5] [none, none, none, none, none, none, none] zyw_Law_clear zyw_LawReader_read zye_LawReader_read (by decide +kernel) (zt_Law_clear hr2) ⟨⟨_, rfl, fun _ => rfl⟩, ⟨_, rfl, fun _ => rfl⟩, ⟨_, rfl, fun _ => rfl⟩, ⟨_, rfl, fun _ => rfl⟩, ⟨_, rfl, fun _ => rfl⟩, ⟨_, rfl, fun _ => rfl⟩, trivial⟩ trivial rfl rfl rfl rfl rfl rfl rfl) zd36_32 zxt38 rfl (by decide) (by decide) rfl ?_
  refine zv_ald hB zd36_35 rfl rfl rfl ?_
  obtain ⟨r3, hr3, h⟩ := zi_bind h
  refine zv_cv hB (zv_emq (va2 := [.inr 0]) (F := [.inl r1, .inl 0, .inl 0, .inr 1, .inl r2.1, .inl r2.2.1, .inl r2.2.2.1, .inl r2.2.2.2.1, .inl r2.2.2.2.2.1, .inl r2.2.2.2.2.2]) (F' := [.inl r1, .inl r3.2.1, .inl r3.1, .inr 1, .inl r3.2.2.2.1, .inl r3.2.2.1, .inl r3.2.2.2.2.2.2.1, .inl r3.2.2.2.2.1, .inl r3.2.2.2.2.2.2.2.1, .inl r3.2.2.2.2.2.1]) (G := [g0, g1, g2, g3, g4, g5, g6]) (G' := [g0, r3.2.2.2.2.2.2.2.2.1, r3.2.2.2.2.2.2.2.2.2.1, r3.2.2.2.2.2.2.2.2.2.2.1, r3.2.2.2.2.2.2.2.2.2.2.2.1, r3.2.2.2.2.2.2.2.2.2.2.2.2.1, r3.2.2.2.2.2.2.2.2.2.2.2.2.2]) (ρ := [0, 2, 1, 3, 4, 5, 6, 7, 8]) (φ := [2, 1, 0, 3, 5, 4, 7, 9, 6, 8]) (ψ := [0, 1, 2, 3, 4, 5, 6]) [some 2, some 1, some 0, some 3, some 5, some 4, some 8, some 6, some 9, some 7] [some 0, some 1, some 2, some 3, some 4, some 5, some 6] zyw_LawReader_readClause zyw_LawReader_read zye_LawReader_read (by decide +kernel) (zt_LawReader_readClause hr3) ⟨⟨_, rfl, fun _ => rfl⟩, ⟨_, rfl, fun _ => rfl⟩, ⟨_, rfl, fun _ => rfl⟩, ⟨_, rfl, fun _ => rfl⟩, ⟨_, rfl, fun _ => rfl⟩, ⟨_, rfl, fun _ => rfl⟩, ⟨_, rfl, fun _ => rfl⟩, ⟨_, rfl, fun _ => rfl⟩, ⟨_, rfl, fun _ => rfl⟩, ⟨_, rfl, fun _ => rfl⟩, trivial⟩ ⟨rfl, rfl, rfl, rfl, rfl, rfl, rfl, trivial⟩ rfl rfl rfl rfl rfl rfl rfl) zd36_36 zxt39 rfl (by decide) (by decide) rfl ?_
  refine zv_con hB zd36_39 rfl ?_
  refine zv_ist hB zd36_40 rfl rfl rfl ?_
  obtain ⟨q9, hq9, h⟩ := zi_bind h
  refine zv_wk hB (L' := [.inr 0, .inr 1000, .inr 1000, .inl 0]) (F' := [.inl r1, .inl r3.2.1, .inl r3.1, .inr 1, .inl r3.2.2.2.1, .inl r3.2.2.1, .inl r3.2.2.2.2.2.2.1, .inl r3.2.2.2.2.1, .inl r3.2.2.2.2.2.2.2.1, .inl r3.2.2.2.2.2.1]) ⟨fun _ => rfl, fun (h : zv_is (.inr 1000)) => (Nat.lt_irrefl 1000 h).elim, fun (h : zv_is (.inr 1000)) => (Nat.lt_irrefl 1000 h).elim, fun _ => rfl, trivial⟩ ⟨fun _ => rfl, fun _ => rfl, fun _ => rfl, fun _ => rfl, fun _ => rfl, fun _ => rfl, fun _ => rfl, fun _ => rfl, fun _ => rfl, fun _ => rfl, trivial⟩ ?_
  refine l0 _ _ _ _ _ _ _ _ _ _ _ _ _ _ _ _ _ q9 hq9 ?_
  show good 81 [.inr 0, .inr 1000, .inr 1000, .inr 1000] [] [.inl r1, .inl q9.1, .inl q9.2.1, .inr 1, .inl q9.2.2.1, .inl q9.2.2.2.1, .inl q9.2.2.2.2.1, .inl q9.2.2.2.2.2.1, .inl q9.2.2.2.2.2.2.1, .inl q9.2.2.2.2.2.2.2.1] [g0, q9.2.2.2.2.2.2.2.2.1, q9.2.2.2.2.2.2.2.2.2.1, q9.2.2.2.2.2.2.2.2.2.2.1, q9.2.2.2.2.2.2.2.2.2.2.2.1, q9.2.2.2.2.2.2.2.2.2.2.2.2.1, q9.2.2.2.2.2.2.2.2.2.2.2.2.2]
  refine zv_ald hB zd36_81 rfl rfl rfl ?_
  refine zv_getf hB zd36_82 rfl rfl (fun _ _ => ?_)
  refine zv_zeq hB zd36_85 rfl (fun hc10 => ?_) (fun hc10 => ?_)
  · rw [if_pos hc10] at h
    refine zv_ald hB zd36_95 rfl rfl rfl ?_
    refine zv_getq hB zd36_96 rfl rfl rfl ?_
    refine zv_getf hB zd36_99 rfl rfl (fun _ _ => ?_)
    have hw := Option.some.inj h
    subst hw
    exact hret _ _ _ _ _ zd36_102 (by trivial) ⟨rfl, rfl, rfl⟩
  · rw [if_neg hc10] at h
    refine zv_ald hB zd36_88 rfl rfl rfl ?_
    refine zv_getf hB zd36_89 rfl rfl (fun _ _ => ?_)
    refine zv_goto hB zd36_92 rfl ?_
    have hw := Option.some.inj h
    subst hw
    exact hret _ _ _ _ _ zd36_102 (by trivial) ⟨rfl, rfl, rfl⟩
/-! X_law (I)I -/
-- names: 0 StarTales('arg', 0), 1 Tape(0, 0, 6), 2 LawReader(0, 0, 9), 3 Law(0, 0, 8), 4 (0, 220)(1, 3, 0), 5 (0, 200)(3, 4, 0), 6 (0, 200)(3, 4, 1), 7 (0, 14)(3, 4, 3), 8 (0, 14)(3, 4, 4), 9 (0, 14)(3, 4, 5), 10 (0, 14)(3, 4, 6), 11 Law(0, 0, 7)
-- fields: f0 = 1.size_, f1 = 0.spareLaw_, f2 = 2.length_, f3 = 2.at_, f4 = 2.fault_, f5 = 2.law_, f6 = 3.steps_, f7 = 3.clauses_, f8 = 3.tellsSeen_, f9 = 3.tellsLines_, f10 = 3.seenByPlace_, f11 = 3.linesByPlace_, f12 = 0.ruling_; arrays: g0 = 4, g1 = 5, g2 = 6, g3 = 7, g4 = 8, g5 = 9, g6 = 10; out: [('ret', None), ('f', 0), ('f', 2), ('f', 3), ('f', 4), ('f', 6), ('f', 7), ('f', 8), ('f', 9), ('f', 10), ('f', 11), ('g', 1), ('g', 2), ('g', 3), ('g', 4), ('g', 5), ('g', 6), ('r', 1), ('r', 12)]
abbrev zy_X_law : zNL := (12, [(0, 0), (1, 3), (2, 5), (3, 4), (11, 4)], [(1, 3, 1, 0), (0, 0, 8, 1), (2, 5, 1, 2), (2, 5, 2, 3), (2, 5, 3, 4), (2, 5, 4, 5), (3, 4, 2, 6), (3, 4, 7, 7), (3, 4, 8, 8), (3, 4, 9, 9), (3, 4, 10, 10), (3, 4, 11, 11), (0, 0, 7, 12)], [(0, 0, 6, 1), (0, 0, 9, 2), (2, 5, 0, 4), (3, 4, 0, 5), (3, 4, 1, 6), (3, 4, 3, 7), (3, 4, 4, 8), (3, 4, 5, 9), (3, 4, 6, 10)], [(4, 0, 220, 0), (5, 0, 200, 1), (6, 0, 200, 2), (7, 0, 14, 3), (8, 0, 14, 4), (9, 0, 14, 5), (10, 0, 14, 6)])
theorem zyw_X_law : zv_wf zy_X_law = true := by decide +kernel
theorem zye_X_law : zv_ek2 zy_X_law = true := by decide +kernel
def zf_X_law (x1 : Int) (f0 : Int) (f2 : Int) (f3 : Int) (f4 : Int) (f6 : Int) (f7 : Int) (f8 : Int) (f9 : Int) (f10 : Int) (f11 : Int) (g0 : (Int → Int)) (g1 : (Int → Int)) (g2 : (Int → Int)) (g3 : (Int → Int)) (g4 : (Int → Int)) (g5 : (Int → Int)) (g6 : (Int → Int)) : Option (Int × Int × Int × Int × Int × Int × Int × Int × Int × Int × Int × (Int → Int) × (Int → Int) × (Int → Int) × (Int → Int) × (Int → Int) × (Int → Int) × Nat × Nat) := (zf_X_isWithin x1 1 200).bind fun r1 => (if r1 = 0 then (some ((-1), f0, f2, f3, f4, f6, f7, f8, f9, f10, f11, g1, g2, g3, g4, g5, g6, 3, 11)) else ((zf_Tape_take x1 f0).bind fun r3 => (if r3.1 = 0 then (some ((-1), r3.2, f2, f3, f4, f6, f7, f8, f9, f10, f11, g1, g2, g3, g4, g5, g6, 3, 11)) else ((zf_LawReader_read x1 f2 f3 f4 f6 f7 f8 f9 f10 f11 g0 g1 g2 g3 g4 g5 g6).bind fun r5 => (if 0 < r5.1 then (some (r5.1, r3.2, r5.2.1, r5.2.2.1, r5.2.2.2.1, r5.2.2.2.2.1, r5.2.2.2.2.2.1, r5.2.2.2.2.2.2.1, r5.2.2.2.2.2.2.2.1, r5.2.2.2.2.2.2.2.2.1, r5.2.2.2.2.2.2.2.2.2.1, r5.2.2.2.2.2.2.2.2.2.2.1, r5.2.2.2.2.2.2.2.2.2.2.2.1, r5.2.2.2.2.2.2.2.2.2.2.2.2.1, r5.2.2.2.2.2.2.2.2.2.2.2.2.2.1, r5.2.2.2.2.2.2.2.2.2.2.2.2.2.2.1, r5.2.2.2.2.2.2.2.2.2.2.2.2.2.2.2, 11, 3)) else (some (r5.1, r3.2, r5.2.1, r5.2.2.1, r5.2.2.2.1, r5.2.2.2.2.1, r5.2.2.2.2.2.1, r5.2.2.2.2.2.2.1, r5.2.2.2.2.2.2.2.1, r5.2.2.2.2.2.2.2.2.1, r5.2.2.2.2.2.2.2.2.2.1, r5.2.2.2.2.2.2.2.2.2.2.1, r5.2.2.2.2.2.2.2.2.2.2.2.1, r5.2.2.2.2.2.2.2.2.2.2.2.2.1, r5.2.2.2.2.2.2.2.2.2.2.2.2.2.1, r5.2.2.2.2.2.2.2.2.2.2.2.2.2.2.1, r5.2.2.2.2.2.2.2.2.2.2.2.2.2.2.2, 3, 11)))))))
theorem zd34_0 : decode zxm34.2.1 0 = .ok (.iload_n 1, 1) := by decide +kernel
theorem zd34_1 : decode zxm34.2.1 1 = .ok (.iconst 1, 1) := by decide +kernel
theorem zd34_2 : decode zxm34.2.1 2 = .ok (.sipush 200, 3) := by decide +kernel
theorem zd34_5 : decode zxm34.2.1 5 = .ok (.invokestatic 126, 3) := by decide +kernel
theorem zd34_8 : decode zxm34.2.1 8 = .ok (.ifCond .eq 14, 3) := by decide +kernel
theorem zd34_11 : decode zxm34.2.1 11 = .ok (.aload_n 0, 1) := by decide +kernel
theorem zd34_12 : decode zxm34.2.1 12 = .ok (.getfield 39, 3) := by decide +kernel
theorem zd34_15 : decode zxm34.2.1 15 = .ok (.iload_n 1, 1) := by decide +kernel
theorem zd34_16 : decode zxm34.2.1 16 = .ok (.invokevirtual 197, 3) := by decide +kernel
theorem zd34_19 : decode zxm34.2.1 19 = .ok (.ifCond .ne 5, 3) := by decide +kernel
theorem zd34_22 : decode zxm34.2.1 22 = .ok (.iconst (-1), 1) := by decide +kernel
theorem zd34_23 : decode zxm34.2.1 23 = .ok (.ireturn, 1) := by decide +kernel
theorem zd34_24 : decode zxm34.2.1 24 = .ok (.aload_n 0, 1) := by decide +kernel
theorem zd34_25 : decode zxm34.2.1 25 = .ok (.getfield 62, 3) := by decide +kernel
theorem zd34_28 : decode zxm34.2.1 28 = .ok (.iload_n 1, 1) := by decide +kernel
theorem zd34_29 : decode zxm34.2.1 29 = .ok (.aload_n 0, 1) := by decide +kernel
theorem zd34_30 : decode zxm34.2.1 30 = .ok (.getfield 50, 3) := by decide +kernel
theorem zd34_33 : decode zxm34.2.1 33 = .ok (.invokevirtual 200, 3) := by decide +kernel
theorem zd34_36 : decode zxm34.2.1 36 = .ok (.istore_n 2, 1) := by decide +kernel
theorem zd34_37 : decode zxm34.2.1 37 = .ok (.iload_n 2, 1) := by decide +kernel
theorem zd34_38 : decode zxm34.2.1 38 = .ok (.ifCond .le 21, 3) := by decide +kernel
theorem zd34_41 : decode zxm34.2.1 41 = .ok (.aload_n 0, 1) := by decide +kernel
theorem zd34_42 : decode zxm34.2.1 42 = .ok (.getfield 46, 3) := by decide +kernel
theorem zd34_45 : decode zxm34.2.1 45 = .ok (.astore_n 3, 1) := by decide +kernel
theorem zd34_46 : decode zxm34.2.1 46 = .ok (.aload_n 0, 1) := by decide +kernel
theorem zd34_47 : decode zxm34.2.1 47 = .ok (.aload_n 0, 1) := by decide +kernel
theorem zd34_48 : decode zxm34.2.1 48 = .ok (.getfield 50, 3) := by decide +kernel
theorem zd34_51 : decode zxm34.2.1 51 = .ok (.putfield 46, 3) := by decide +kernel
theorem zd34_54 : decode zxm34.2.1 54 = .ok (.aload_n 0, 1) := by decide +kernel
theorem zd34_55 : decode zxm34.2.1 55 = .ok (.aload_n 3, 1) := by decide +kernel
theorem zd34_56 : decode zxm34.2.1 56 = .ok (.putfield 50, 3) := by decide +kernel
theorem zd34_59 : decode zxm34.2.1 59 = .ok (.iload_n 2, 1) := by decide +kernel
theorem zd34_60 : decode zxm34.2.1 60 = .ok (.ireturn, 1) := by decide +kernel
theorem zt_X_law {x1 : Int} {f0 : Int} {f2 : Int} {f3 : Int} {f4 : Int} {f6 : Int} {f7 : Int} {f8 : Int} {f9 : Int} {f10 : Int} {f11 : Int} {g0 : (Int → Int)} {g1 : (Int → Int)} {g2 : (Int → Int)} {g3 : (Int → Int)} {g4 : (Int → Int)} {g5 : (Int → Int)} {g6 : (Int → Int)} {o : Int × Int × Int × Int × Int × Int × Int × Int × Int × Int × Int × (Int → Int) × (Int → Int) × (Int → Int) × (Int → Int) × (Int → Int) × (Int → Int) × Nat × Nat} (h : zf_X_law x1 f0 f2 f3 f4 f6 f7 f8 f9 f10 f11 g0 g1 g2 g3 g4 g5 g6 = some o) : zv_Fn z_TB z_cl z_KX zy_X_law zxm34 (81, 4860) [.inr 0, .inl x1] [.inl f0, .inr 3, .inl f2, .inl f3, .inl f4, .inr 1000, .inl f6, .inl f7, .inl f8, .inl f9, .inl f10, .inl f11, .inr 11] [g0, g1, g2, g3, g4, g5, g6] (some o.1) [.inl o.2.1, .inr o.2.2.2.2.2.2.2.2.2.2.2.2.2.2.2.2.2.1, .inl o.2.2.1, .inl o.2.2.2.1, .inl o.2.2.2.2.1, .inr 1000, .inl o.2.2.2.2.2.1, .inl o.2.2.2.2.2.2.1, .inl o.2.2.2.2.2.2.2.1, .inl o.2.2.2.2.2.2.2.2.1, .inl o.2.2.2.2.2.2.2.2.2.1, .inl o.2.2.2.2.2.2.2.2.2.2.1, .inr o.2.2.2.2.2.2.2.2.2.2.2.2.2.2.2.2.2.2] [g0, o.2.2.2.2.2.2.2.2.2.2.2.1, o.2.2.2.2.2.2.2.2.2.2.2.2.1, o.2.2.2.2.2.2.2.2.2.2.2.2.2.1, o.2.2.2.2.2.2.2.2.2.2.2.2.2.2.1, o.2.2.2.2.2.2.2.2.2.2.2.2.2.2.2.1, o.2.2.2.2.2.2.2.2.2.2.2.2.2.2.2.2.1] := zv_meth (K := (z_KF0, z_KC0, z_KL0, z_KT0, [], [], [], none)) (FT := z_FT) (MT := z_MT) (n := 2) zxp34 (z_ks0 _ (fun _ h => List.mem_cons_of_mem _ h) _ _ _ _ (fun j r h _ => by cases h)) (fun _ _ => zs_KX_p) zyw_X_law (fun va F G h => by obtain ⟨rfl, _⟩ := h; rfl) (fun va F G h => by obtain ⟨rfl, _⟩ := h; rfl) rfl fun good va F G hB hret hvret hP => by
  obtain ⟨rfl, rfl, rfl⟩ := hP
  unfold zf_X_law at h
  refine zv_ild hB zd34_0 rfl rfl ?_
  refine zv_con hB zd34_1 rfl ?_
  refine zv_con hB zd34_2 rfl ?_
  obtain ⟨r1, hr1, h⟩ := zi_bind h
  refine zv_cs hB (zv_emq (va2 := [.inl x1, .inl 1, .inl 200]) (F := [.inl f0, .inr 3, .inl f2, .inl f3, .inl f4, .inr 1000, .inl f6, .inl f7, .inl f8, .inl f9, .inl f10, .inl f11, .inr 11]) (F' := [.inl f0, .inr 3, .inl f2, .inl f3, .inl f4, .inr 1000, .inl f6, .inl f7, .inl f8, .inl f9, .inl f10, .inl f11, .inr 11]) (G := [g0, g1, g2, g3, g4, g5, g6]) (G' := [g0, g1, g2, g3, g4, g5, g6]) (ρ := []) (φ := []) (ψ := []) [none, none, none, none, none, none, none, none, none, none, none, none, none] [none, none, none, none, none, none, none] zyw_X_isWithin zyw_X_law zye_X_law (by decide +kernel) (zt_X_isWithin hr1) trivial trivial rfl rfl rfl rfl rfl rfl rfl) zd34_5 zxt15 rfl (by decide) (by decide) rfl ?_
  refine zv_zeq hB zd34_8 rfl (fun hc2 => ?_) (fun hc2 => ?_)
  · rw [if_pos hc2] at h
    refine zv_con hB zd34_22 rfl ?_
    have hw := Option.some.inj h
    subst hw
    exact hret _ _ _ _ _ zd34_23 (by trivial) ⟨rfl, rfl, rfl⟩
  · rw [if_neg hc2] at h
    refine zv_ald hB zd34_11 rfl rfl rfl ?_
    refine zv_getr hB zd34_12 rfl ?_
    refine zv_ild hB zd34_15 rfl rfl ?_
    obtain ⟨r3, hr3, h⟩ := zi_bind h
    refine zv_cv hB (zv_emq (va2 := [.inr 1, .inl x1]) (F := [.inl f0, .inr 3, .inl f2, .inl f3, .inl f4, .inr 1000, .inl f6, .inl f7, .inl f8, .inl f9, .inl f10, .inl f11, .inr 11]) (F' := [.inl r3.2, .inr 3, .inl f2, .inl f3, .inl f4, .inr 1000, .inl f6, .inl f7, .inl f8, .inl f9, .inl f10, .inl f11, .inr 11]) (G := [g0, g1, g2, g3, g4, g5, g6]) (G' := [g0, g1, g2, g3, g4, g5, g6]) (ρ := [1]) (φ := [0]) (ψ := []) [some 0, none, none, none, none, none, none, none, none, none, none, none, none] [none, none, none, none, none, none, none] zyw_Tape_take zyw_X_law zye_X_law (by decide +kernel) (zt_Tape_take hr3) ⟨⟨_, rfl, fun _ => rfl⟩, trivial⟩ trivial rfl rfl rfl rfl rfl rfl rfl) zd34_16 zxt35 rfl (by decide) (by decide) rfl ?_
    refine zv_zne hB zd34_19 rfl (fun hc4 => ?_) (fun hc4 => ?_)
    · rw [if_neg hc4] at h
      refine zv_ald hB zd34_24 rfl rfl rfl ?_
      refine zv_getr hB zd34_25 rfl ?_
      refine zv_ild hB zd34_28 rfl rfl ?_
      refine zv_ald hB zd34_29 rfl rfl rfl ?_
      refine zv_getq hB zd34_30 rfl rfl rfl ?_
      obtain ⟨r5, hr5, h⟩ := zi_bind h
      refine zv_cv hB (zv_emq (va2 := [.inr 2, .inl x1, .inr 3]) (F := [.inl r3.2, .inr 3, .inl f2, .inl f3, .inl f4, .inr 1000, .inl f6, .inl f7, .inl f8, .inl f9, .inl f10, .inl f11, .inr 11]) (F' := [.inl r3.2, .inr 3, .inl r5.2.1, .inl r5.2.2.1, .inl r5.2.2.2.1, .inr 3, .inl r5.2.2.2.2.1, .inl r5.2.2.2.2.2.1, .inl r5.2.2.2.2.2.2.1, .inl r5.2.2.2.2.2.2.2.1, .inl r5.2.2.2.2.2.2.2.2.1, .inl r5.2.2.2.2.2.2.2.2.2.1, .inr 11]) (G := [g0, g1, g2, g3, g4, g5, g6]) (G' := [g0, r5.2.2.2.2.2.2.2.2.2.2.1, r5.2.2.2.2.2.2.2.2.2.2.2.1, r5.2.2.2.2.2.2.2.2.2.2.2.2.1, r5.2.2.2.2.2.2.2.2.2.2.2.2.2.1, r5.2.2.2.2.2.2.2.2.2.2.2.2.2.2.1, r5.2.2.2.2.2.2.2.2.2.2.2.2.2.2.2]) (ρ := [2, 3, 4, 5, 6, 7, 8, 9, 10]) (φ := [2, 3, 4, 5, 6, 7, 8, 9, 10, 11]) (ψ := [0, 1, 2, 3, 4, 5, 6]) [none, none, some 0, some 1, some 2, some 3, some 4, some 5, some 6, some 7, some 8, some 9, none] [some 0, some 1, some 2, some 3, some 4, some 5, some 6] zyw_LawReader_read zyw_X_law zye_X_law (by decide +kernel) (zt_LawReader_read hr5) ⟨⟨_, rfl, fun _ => rfl⟩, ⟨_, rfl, fun _ => rfl⟩, ⟨_, rfl, fun _ => rfl⟩, ⟨_, rfl, fun (h : zv_is (.inr 1000)) => (Nat.lt_irrefl 1000 h).elim⟩, ⟨_, rfl, fun _ => rfl⟩, ⟨_, rfl, fun _ => rfl⟩, ⟨_, rfl, fun _ => rfl⟩, ⟨_, rfl, fun _ => rfl⟩, ⟨_, rfl, fun _ => rfl⟩, ⟨_, rfl, fun _ => rfl⟩, trivial⟩ ⟨rfl, rfl, rfl, rfl, rfl, rfl, rfl, trivial⟩ rfl rfl rfl rfl rfl rfl rfl) zd34_33 zxt36 rfl (by decide) (by decide) rfl ?_
      refine zv_ist hB zd34_36 rfl rfl rfl ?_
      refine zv_ild hB zd34_37 rfl rfl ?_
      refine zv_zle hB zd34_38 rfl (fun hc6 => ?_) (fun hc6 => ?_)
      · rw [if_neg (Int.not_lt.mpr hc6)] at h
        refine zv_ild hB zd34_59 rfl rfl ?_
        have hw := Option.some.inj h
        refine zv_wk hB (L' := [.inr 0, .inl x1, .inl r5.1, .inr 1000]) (F' := [.inl r3.2, .inr 3, .inl r5.2.1, .inl r5.2.2.1, .inl r5.2.2.2.1, .inr 1000, .inl r5.2.2.2.2.1, .inl r5.2.2.2.2.2.1, .inl r5.2.2.2.2.2.2.1, .inl r5.2.2.2.2.2.2.2.1, .inl r5.2.2.2.2.2.2.2.2.1, .inl r5.2.2.2.2.2.2.2.2.2.1, .inr 11]) ⟨fun _ => rfl, fun _ => rfl, fun _ => rfl, fun _ => rfl, trivial⟩ ⟨fun _ => rfl, fun _ => rfl, fun _ => rfl, fun _ => rfl, fun _ => rfl, fun (h : zv_is (.inr 1000)) => (Nat.lt_irrefl 1000 h).elim, fun _ => rfl, fun _ => rfl, fun _ => rfl, fun _ => rfl, fun _ => rfl, fun _ => rfl, fun _ => rfl, trivial⟩ ?_
        subst hw
        exact hret _ _ _ _ _ zd34_60 (by trivial) ⟨rfl, rfl, rfl⟩
      · rw [if_pos hc6] at h
        refine zv_ald hB zd34_41 rfl rfl rfl ?_
        refine zv_getq hB zd34_42 rfl rfl rfl ?_
        refine zv_ast hB zd34_45 rfl rfl rfl rfl ?_
        refine zv_ald hB zd34_46 rfl rfl rfl ?_
        refine zv_ald hB zd34_47 rfl rfl rfl ?_
        refine zv_getq hB zd34_48 rfl rfl rfl ?_
        refine zv_putq hB zd34_51 rfl rfl (by decide) rfl ?_
        refine zv_ald hB zd34_54 rfl rfl rfl ?_
        refine zv_ald hB zd34_55 rfl rfl rfl ?_
        refine zv_putq hB zd34_56 rfl rfl (by decide) rfl ?_
        refine zv_ild hB zd34_59 rfl rfl ?_
        have hw := Option.some.inj h
        refine zv_wk hB (L' := [.inr 0, .inl x1, .inl r5.1, .inr 11]) (F' := [.inl r3.2, .inr 11, .inl r5.2.1, .inl r5.2.2.1, .inl r5.2.2.2.1, .inr 1000, .inl r5.2.2.2.2.1, .inl r5.2.2.2.2.2.1, .inl r5.2.2.2.2.2.2.1, .inl r5.2.2.2.2.2.2.2.1, .inl r5.2.2.2.2.2.2.2.2.1, .inl r5.2.2.2.2.2.2.2.2.2.1, .inr 3]) ⟨fun _ => rfl, fun _ => rfl, fun _ => rfl, fun _ => rfl, trivial⟩ ⟨fun _ => rfl, fun _ => rfl, fun _ => rfl, fun _ => rfl, fun _ => rfl, fun (h : zv_is (.inr 1000)) => (Nat.lt_irrefl 1000 h).elim, fun _ => rfl, fun _ => rfl, fun _ => rfl, fun _ => rfl, fun _ => rfl, fun _ => rfl, fun _ => rfl, trivial⟩ ?_
        subst hw
        exact hret _ _ _ _ _ zd34_60 (by trivial) ⟨rfl, rfl, rfl⟩
    · rw [if_pos hc4] at h
      refine zv_con hB zd34_22 rfl ?_
      have hw := Option.some.inj h
      subst hw
      exact hret _ _ _ _ _ zd34_23 (by trivial) ⟨rfl, rfl, rfl⟩
/-! Arrays_fill_8 ([II)V -/
-- names: 0 (0, 8)('arg', 0)
-- fields: ; arrays: g0 = 0; out: [('g', 0)]
abbrev zy_Arrays_fill_8 : zNL := (1, [], [], [], [(0, 0, 8, 0)])
theorem zyw_Arrays_fill_8 : zv_wf zy_Arrays_fill_8 = true := by decide +kernel
theorem zye_Arrays_fill_8 : zv_ek2 zy_Arrays_fill_8 = true := by decide +kernel
def zf_Arrays_fill_8_l0_b (x1 : Int) (x3 : Int) (rec : Int → (Int → Int) → Option ((Int → Int))) (x2 : Int) (g0 : (Int → Int)) : Option ((Int → Int)) := if x2 < x3 then (cond (zi_ix x2 8) (rec (zi_w (x2 + 1)) (zv_up g0 x2 x1)) none) else (some g0)
def zf_Arrays_fill_8_l0 (x1 : Int) (x3 : Int) : Nat → Int → (Int → Int) → Option ((Int → Int))
  | 0, _, _ => none
  | n + 1, x2, g0 => zf_Arrays_fill_8_l0_b x1 x3 (zf_Arrays_fill_8_l0 x1 x3 n) x2 g0
def zf_Arrays_fill_8 (x1 : Int) (g0 : (Int → Int)) : Option ((Int → Int)) := (zf_Arrays_fill_8_l0 x1 8 zi_fu 0 g0).bind fun q3 => (some q3)
theorem zd78_0 : decode zxm78.2.1 0 = .ok (.iconst 0, 1) := by decide +kernel
theorem zd78_1 : decode zxm78.2.1 1 = .ok (.istore_n 2, 1) := by decide +kernel
theorem zd78_2 : decode zxm78.2.1 2 = .ok (.aload_n 0, 1) := by decide +kernel
theorem zd78_3 : decode zxm78.2.1 3 = .ok (.arraylength, 1) := by decide +kernel
theorem zd78_4 : decode zxm78.2.1 4 = .ok (.istore_n 3, 1) := by decide +kernel
theorem zd78_5 : decode zxm78.2.1 5 = .ok (.iload_n 2, 1) := by decide +kernel
theorem zd78_6 : decode zxm78.2.1 6 = .ok (.iload_n 3, 1) := by decide +kernel
theorem zd78_7 : decode zxm78.2.1 7 = .ok (.if_icmp .ge 13, 3) := by decide +kernel
theorem zd78_10 : decode zxm78.2.1 10 = .ok (.aload_n 0, 1) := by decide +kernel
theorem zd78_11 : decode zxm78.2.1 11 = .ok (.iload_n 2, 1) := by decide +kernel
theorem zd78_12 : decode zxm78.2.1 12 = .ok (.iload_n 1, 1) := by decide +kernel
theorem zd78_13 : decode zxm78.2.1 13 = .ok (.iastore, 1) := by decide +kernel
theorem zd78_14 : decode zxm78.2.1 14 = .ok (.iinc 2 1, 3) := by decide +kernel
theorem zd78_17 : decode zxm78.2.1 17 = .ok (.goto (-12), 3) := by decide +kernel
theorem zd78_20 : decode zxm78.2.1 20 = .ok (.return_, 1) := by decide +kernel
theorem zt_Arrays_fill_8 {x1 : Int} {g0 : (Int → Int)} {o : (Int → Int)} (h : zf_Arrays_fill_8 x1 g0 = some o) : zv_Fn z_TB z_cl z_KX zy_Arrays_fill_8 zxm78 (0, 0) [.inr 0, .inl x1] [] [g0] none [] [o] := zv_meth (K := (z_KF20, z_KC20, z_KL20, z_KT20, [], [], [], none)) (FT := z_FT) (MT := z_MT) (n := 2) zxp78 (z_ks20 _ (fun _ h => List.mem_cons_of_mem _ h) _ _ _ _ (fun j r h _ => by cases h)) (fun _ _ => zs_KX_p) zyw_Arrays_fill_8 (fun va F G h => by obtain ⟨rfl, _⟩ := h; rfl) (fun va F G h => by obtain ⟨rfl, _⟩ := h; rfl) rfl fun good va F G hB hret hvret hP => by
  obtain ⟨rfl, rfl, rfl⟩ := hP
  have l0 : ∀ (n : Nat) (x1 : Int) (x2 : Int) (x3 : Int) (g0 : (Int → Int)) (q : (Int → Int)), zf_Arrays_fill_8_l0 x1 x3 n x2 g0 = some q → (good 20 [.inr 1000, .inr 1000, .inr 1000, .inr 1000] [] [] [q]) → good 5 [.inr 0, .inl x1, .inl x2, .inl x3] [] [] [g0] := by
    intro n
    induction n with
    | zero => intro x1 x2 x3 g0 q h; exact absurd (show none = some q from h) (fun h => by cases h)
    | succ n ih =>
      intro x1 x2 x3 g0 q h hK
      replace h : zf_Arrays_fill_8_l0_b x1 x3 (zf_Arrays_fill_8_l0 x1 x3 n) x2 g0 = some q := h
      unfold zf_Arrays_fill_8_l0_b at h
      refine zv_ild hB zd78_5 rfl rfl ?_
      refine zv_ild hB zd78_6 rfl rfl ?_
      refine zv_cge hB zd78_7 rfl (fun hc1 => ?_) (fun hc1 => ?_)
      · rw [if_neg (Int.not_lt.mpr hc1)] at h
        have hq := Option.some.inj h
        subst hq
        refine zv_wk hB (L' := [.inr 1000, .inr 1000, .inr 1000, .inr 1000]) (F' := []) ⟨fun (h : zv_is (.inr 1000)) => (Nat.lt_irrefl 1000 h).elim, fun (h : zv_is (.inr 1000)) => (Nat.lt_irrefl 1000 h).elim, fun (h : zv_is (.inr 1000)) => (Nat.lt_irrefl 1000 h).elim, fun (h : zv_is (.inr 1000)) => (Nat.lt_irrefl 1000 h).elim, trivial⟩ trivial ?_
        exact hK
      · rw [if_pos hc1] at h
        refine zv_ald hB zd78_10 rfl rfl rfl ?_
        refine zv_ild hB zd78_11 rfl rfl ?_
        refine zv_ild hB zd78_12 rfl rfl ?_
        obtain ⟨c2, h⟩ := zi_if h
        refine zv_iast hB zd78_13 rfl rfl (zi_ix_ok c2).1 (zi_ix_ok c2).2 ?_
        refine zv_iincw hB zd78_14 rfl rfl ?_
        refine zv_goto hB zd78_17 rfl ?_
        exact ih _ _ _ _ q h hK
  unfold zf_Arrays_fill_8 at h
  refine zv_con hB zd78_0 rfl ?_
  refine zv_ist hB zd78_1 rfl rfl rfl ?_
  refine zv_ald hB zd78_2 rfl rfl rfl ?_
  refine zv_alen (v := 8) hB zd78_3 rfl rfl rfl rfl ?_
  refine zv_ist hB zd78_4 rfl rfl rfl ?_
  obtain ⟨q3, hq3, h⟩ := zi_bind h
  refine l0 _ _ _ _ _ q3 hq3 ?_
  show good 20 [.inr 1000, .inr 1000, .inr 1000, .inr 1000] [] [] [q3]
  have hw := Option.some.inj h
  subst hw
  exact hvret _ _ _ _ zd78_20 trivial ⟨rfl, rfl, rfl⟩
/-! Tale_nameAt_220 ([III)I -/
-- names: 0 (0, 220)('arg', 0)
-- fields: ; arrays: g0 = 0; out: [('ret', None)]
abbrev zy_Tale_nameAt_220 : zNL := (1, [], [], [], [(0, 0, 220, 0)])
theorem zyw_Tale_nameAt_220 : zv_wf zy_Tale_nameAt_220 = true := by decide +kernel
theorem zye_Tale_nameAt_220 : zv_ek2 zy_Tale_nameAt_220 = true := by decide +kernel
def zf_Tale_nameAt_220 (x1 : Int) (x2 : Int) (g0 : (Int → Int)) : Option (Int) := if x2 < 0 then (some (-1)) else (if x2 < x1 then (if x2 < 220 then (cond (zi_ix x2 220) (if (g0 x2) < 65 then (some (-1)) else (if 72 < (g0 x2) then (some (-1)) else (some (zi_w ((g0 x2) - 65))))) none) else (some (-1))) else (some (-1)))
theorem zd79_0 : decode zxm79.2.1 0 = .ok (.iload_n 2, 1) := by decide +kernel
theorem zd79_1 : decode zxm79.2.1 1 = .ok (.ifCond .lt 34, 3) := by decide +kernel
theorem zd79_4 : decode zxm79.2.1 4 = .ok (.iload_n 2, 1) := by decide +kernel
theorem zd79_5 : decode zxm79.2.1 5 = .ok (.iload_n 1, 1) := by decide +kernel
theorem zd79_6 : decode zxm79.2.1 6 = .ok (.if_icmp .ge 29, 3) := by decide +kernel
theorem zd79_9 : decode zxm79.2.1 9 = .ok (.iload_n 2, 1) := by decide +kernel
theorem zd79_10 : decode zxm79.2.1 10 = .ok (.aload_n 0, 1) := by decide +kernel
theorem zd79_11 : decode zxm79.2.1 11 = .ok (.arraylength, 1) := by decide +kernel
theorem zd79_12 : decode zxm79.2.1 12 = .ok (.if_icmp .ge 23, 3) := by decide +kernel
theorem zd79_15 : decode zxm79.2.1 15 = .ok (.aload_n 0, 1) := by decide +kernel
theorem zd79_16 : decode zxm79.2.1 16 = .ok (.iload_n 2, 1) := by decide +kernel
theorem zd79_17 : decode zxm79.2.1 17 = .ok (.iaload, 1) := by decide +kernel
theorem zd79_18 : decode zxm79.2.1 18 = .ok (.bipush 65, 2) := by decide +kernel
theorem zd79_20 : decode zxm79.2.1 20 = .ok (.if_icmp .lt 15, 3) := by decide +kernel
theorem zd79_23 : decode zxm79.2.1 23 = .ok (.aload_n 0, 1) := by decide +kernel
theorem zd79_24 : decode zxm79.2.1 24 = .ok (.iload_n 2, 1) := by decide +kernel
theorem zd79_25 : decode zxm79.2.1 25 = .ok (.iaload, 1) := by decide +kernel
theorem zd79_26 : decode zxm79.2.1 26 = .ok (.bipush 72, 2) := by decide +kernel
theorem zd79_28 : decode zxm79.2.1 28 = .ok (.if_icmp .gt 7, 3) := by decide +kernel
theorem zd79_31 : decode zxm79.2.1 31 = .ok (.iconst 1, 1) := by decide +kernel
theorem zd79_32 : decode zxm79.2.1 32 = .ok (.goto 4, 3) := by decide +kernel
theorem zd79_35 : decode zxm79.2.1 35 = .ok (.iconst 0, 1) := by decide +kernel
theorem zd79_36 : decode zxm79.2.1 36 = .ok (.istore_n 3, 1) := by decide +kernel
theorem zd79_37 : decode zxm79.2.1 37 = .ok (.iload_n 3, 1) := by decide +kernel
theorem zd79_38 : decode zxm79.2.1 38 = .ok (.ifCond .eq 12, 3) := by decide +kernel
theorem zd79_41 : decode zxm79.2.1 41 = .ok (.aload_n 0, 1) := by decide +kernel
theorem zd79_42 : decode zxm79.2.1 42 = .ok (.iload_n 2, 1) := by decide +kernel
theorem zd79_43 : decode zxm79.2.1 43 = .ok (.iaload, 1) := by decide +kernel
theorem zd79_44 : decode zxm79.2.1 44 = .ok (.bipush 65, 2) := by decide +kernel
theorem zd79_46 : decode zxm79.2.1 46 = .ok (.isub, 1) := by decide +kernel
theorem zd79_47 : decode zxm79.2.1 47 = .ok (.goto 4, 3) := by decide +kernel
theorem zd79_50 : decode zxm79.2.1 50 = .ok (.iconst (-1), 1) := by decide +kernel
theorem zd79_51 : decode zxm79.2.1 51 = .ok (.ireturn, 1) := by decide +kernel
theorem zt_Tale_nameAt_220 {x1 : Int} {x2 : Int} {g0 : (Int → Int)} {o : Int} (h : zf_Tale_nameAt_220 x1 x2 g0 = some o) : zv_Fn z_TB z_cl z_KX zy_Tale_nameAt_220 zxm79 (0, 0) [.inr 0, .inl x1, .inl x2] [] [g0] (some o) [] [g0] := zv_meth (K := (z_KF9, z_KC9, z_KL9, z_KT9, [], [], [], none)) (FT := z_FT) (MT := z_MT) (n := 3) zxp79 (z_ks9 _ (fun _ h => List.mem_cons_of_mem _ h) _ _ _ _ (fun j r h _ => by cases h)) (fun _ _ => zs_KX_p) zyw_Tale_nameAt_220 (fun va F G h => by obtain ⟨rfl, _⟩ := h; rfl) (fun va F G h => by obtain ⟨rfl, _⟩ := h; rfl) rfl fun good va F G hB hret hvret hP => by
  obtain ⟨rfl, rfl, rfl⟩ := hP
  unfold zf_Tale_nameAt_220 at h
  refine zv_ild hB zd79_0 rfl rfl ?_
  refine zv_zlt hB zd79_1 rfl (fun hc1 => ?_) (fun hc1 => ?_)
  · rw [if_pos hc1] at h
    refine zv_con hB zd79_35 rfl ?_
    refine zv_ist hB zd79_36 rfl rfl rfl ?_
    refine zv_ild hB zd79_37 rfl rfl ?_
    refine zv_zeq hB zd79_38 rfl (fun _ => ?_) (fun hc => absurd hc (by decide))
    refine zv_con hB zd79_50 rfl ?_
    have hw := Option.some.inj h
    subst hw
    exact hret _ _ _ _ _ zd79_51 (by trivial) ⟨rfl, rfl, rfl⟩
  · rw [if_neg (Int.not_lt.mpr hc1)] at h
    refine zv_ild hB zd79_4 rfl rfl ?_
    refine zv_ild hB zd79_5 rfl rfl ?_
    refine zv_cge hB zd79_6 rfl (fun hc3 => ?_) (fun hc3 => ?_)
    · rw [if_neg (Int.not_lt.mpr hc3)] at h
      refine zv_con hB zd79_35 rfl ?_
      refine zv_ist hB zd79_36 rfl rfl rfl ?_
      refine zv_ild hB zd79_37 rfl rfl ?_
      refine zv_zeq hB zd79_38 rfl (fun _ => ?_) (fun hc => absurd hc (by decide))
      refine zv_con hB zd79_50 rfl ?_
      have hw := Option.some.inj h
      subst hw
      exact hret _ _ _ _ _ zd79_51 (by trivial) ⟨rfl, rfl, rfl⟩
    · rw [if_pos hc3] at h
      refine zv_ild hB zd79_9 rfl rfl ?_
      refine zv_ald hB zd79_10 rfl rfl rfl ?_
      refine zv_alen (v := 220) hB zd79_11 rfl rfl rfl rfl ?_
      refine zv_cge hB zd79_12 rfl (fun hc5 => ?_) (fun hc5 => ?_)
      · rw [if_neg (Int.not_lt.mpr hc5)] at h
        refine zv_con hB zd79_35 rfl ?_
        refine zv_ist hB zd79_36 rfl rfl rfl ?_
        refine zv_ild hB zd79_37 rfl rfl ?_
        refine zv_zeq hB zd79_38 rfl (fun _ => ?_) (fun hc => absurd hc (by decide))
        refine zv_con hB zd79_50 rfl ?_
        have hw := Option.some.inj h
        subst hw
        exact hret _ _ _ _ _ zd79_51 (by trivial) ⟨rfl, rfl, rfl⟩
      · rw [if_pos hc5] at h
        refine zv_ald hB zd79_15 rfl rfl rfl ?_
        refine zv_ild hB zd79_16 rfl rfl ?_
        obtain ⟨c7, h⟩ := zi_if h
        refine zv_iald hB zd79_17 rfl rfl (zi_ix_ok c7).1 (zi_ix_ok c7).2 (fun _ _ => ?_)
        refine zv_con hB zd79_18 rfl ?_
        refine zv_clt hB zd79_20 rfl (fun hc8 => ?_) (fun hc8 => ?_)
        · rw [if_pos hc8] at h
          refine zv_con hB zd79_35 rfl ?_
          refine zv_ist hB zd79_36 rfl rfl rfl ?_
          refine zv_ild hB zd79_37 rfl rfl ?_
          refine zv_zeq hB zd79_38 rfl (fun _ => ?_) (fun hc => absurd hc (by decide))
          refine zv_con hB zd79_50 rfl ?_
          have hw := Option.some.inj h
          subst hw
          exact hret _ _ _ _ _ zd79_51 (by trivial) ⟨rfl, rfl, rfl⟩
        · rw [if_neg (Int.not_lt.mpr hc8)] at h
          refine zv_ald hB zd79_23 rfl rfl rfl ?_
          refine zv_ild hB zd79_24 rfl rfl ?_
          refine zv_iald hB zd79_25 rfl rfl (zi_ix_ok c7).1 (zi_ix_ok c7).2 (fun _ _ => ?_)
          refine zv_con hB zd79_26 rfl ?_
          refine zv_cgt hB zd79_28 rfl (fun hc10 => ?_) (fun hc10 => ?_)
          · rw [if_pos hc10] at h
            refine zv_con hB zd79_35 rfl ?_
            refine zv_ist hB zd79_36 rfl rfl rfl ?_
            refine zv_ild hB zd79_37 rfl rfl ?_
            refine zv_zeq hB zd79_38 rfl (fun _ => ?_) (fun hc => absurd hc (by decide))
            refine zv_con hB zd79_50 rfl ?_
            have hw := Option.some.inj h
            subst hw
            exact hret _ _ _ _ _ zd79_51 (by trivial) ⟨rfl, rfl, rfl⟩
          · rw [if_neg (Int.not_lt.mpr hc10)] at h
            refine zv_con hB zd79_31 rfl ?_
            refine zv_goto hB zd79_32 rfl ?_
            refine zv_ist hB zd79_36 rfl rfl rfl ?_
            refine zv_ild hB zd79_37 rfl rfl ?_
            refine zv_zeq hB zd79_38 rfl (fun hc => absurd hc (by decide)) (fun _ => ?_)
            refine zv_ald hB zd79_41 rfl rfl rfl ?_
            refine zv_ild hB zd79_42 rfl rfl ?_
            refine zv_iald hB zd79_43 rfl rfl (zi_ix_ok c7).1 (zi_ix_ok c7).2 (fun _ _ => ?_)
            refine zv_con hB zd79_44 rfl ?_
            refine zv_subw hB zd79_46 ?_
            refine zv_goto hB zd79_47 rfl ?_
            have hw := Option.some.inj h
            subst hw
            exact hret _ _ _ _ _ zd79_51 (by trivial) ⟨rfl, rfl, rfl⟩
/-! Tale_addLine (II)V -/
-- names: 0 Tale('arg', 0), 1 (0, 8)(0, 6, 2)
-- fields: f0 = 0.names_, f1 = 0.lines_; arrays: g0 = 1; out: [('f', 0), ('f', 1), ('g', 0)]
abbrev zy_Tale_addLine : zNL := (2, [(0, 6)], [(0, 6, 1, 0), (0, 6, 0, 1)], [(0, 6, 2, 1)], [(1, 0, 8, 0)])
theorem zyw_Tale_addLine : zv_wf zy_Tale_addLine = true := by decide +kernel
theorem zye_Tale_addLine : zv_ek2 zy_Tale_addLine = true := by decide +kernel
def zf_Tale_addLine (x1 : Int) (x2 : Int) (f0 : Int) (f1 : Int) (g0 : (Int → Int)) : Option (Int × Int × (Int → Int)) := cond (zi_ix x1 8) (cond (zi_ix x2 8) (some ((zi_or f0 (zi_or (zi_shl 1 x1) (zi_shl 1 x2))), (zi_w (f1 + 1)), (zv_up (zv_up g0 x1 (zi_or (g0 x1) (zi_shl 1 x2))) x2 (zi_or ((zv_up g0 x1 (zi_or (g0 x1) (zi_shl 1 x2))) x2) (zi_shl 1 x1))))) none) none
theorem zd80_0 : decode zxm80.2.1 0 = .ok (.aload_n 0, 1) := by decide +kernel
theorem zd80_1 : decode zxm80.2.1 1 = .ok (.getfield 18, 3) := by decide +kernel
theorem zd80_4 : decode zxm80.2.1 4 = .ok (.iload_n 1, 1) := by decide +kernel
theorem zd80_5 : decode zxm80.2.1 5 = .ok (.dup2, 1) := by decide +kernel
theorem zd80_6 : decode zxm80.2.1 6 = .ok (.iaload, 1) := by decide +kernel
theorem zd80_7 : decode zxm80.2.1 7 = .ok (.iconst 1, 1) := by decide +kernel
theorem zd80_8 : decode zxm80.2.1 8 = .ok (.iload_n 2, 1) := by decide +kernel
theorem zd80_9 : decode zxm80.2.1 9 = .ok (.ishl, 1) := by decide +kernel
theorem zd80_10 : decode zxm80.2.1 10 = .ok (.ior, 1) := by decide +kernel
theorem zd80_11 : decode zxm80.2.1 11 = .ok (.iastore, 1) := by decide +kernel
theorem zd80_12 : decode zxm80.2.1 12 = .ok (.aload_n 0, 1) := by decide +kernel
theorem zd80_13 : decode zxm80.2.1 13 = .ok (.getfield 18, 3) := by decide +kernel
theorem zd80_16 : decode zxm80.2.1 16 = .ok (.iload_n 2, 1) := by decide +kernel
theorem zd80_17 : decode zxm80.2.1 17 = .ok (.dup2, 1) := by decide +kernel
theorem zd80_18 : decode zxm80.2.1 18 = .ok (.iaload, 1) := by decide +kernel
theorem zd80_19 : decode zxm80.2.1 19 = .ok (.iconst 1, 1) := by decide +kernel
theorem zd80_20 : decode zxm80.2.1 20 = .ok (.iload_n 1, 1) := by decide +kernel
theorem zd80_21 : decode zxm80.2.1 21 = .ok (.ishl, 1) := by decide +kernel
theorem zd80_22 : decode zxm80.2.1 22 = .ok (.ior, 1) := by decide +kernel
theorem zd80_23 : decode zxm80.2.1 23 = .ok (.iastore, 1) := by decide +kernel
theorem zd80_24 : decode zxm80.2.1 24 = .ok (.aload_n 0, 1) := by decide +kernel
theorem zd80_25 : decode zxm80.2.1 25 = .ok (.dup, 1) := by decide +kernel
theorem zd80_26 : decode zxm80.2.1 26 = .ok (.getfield 15, 3) := by decide +kernel
theorem zd80_29 : decode zxm80.2.1 29 = .ok (.iconst 1, 1) := by decide +kernel
theorem zd80_30 : decode zxm80.2.1 30 = .ok (.iload_n 1, 1) := by decide +kernel
theorem zd80_31 : decode zxm80.2.1 31 = .ok (.ishl, 1) := by decide +kernel
theorem zd80_32 : decode zxm80.2.1 32 = .ok (.iconst 1, 1) := by decide +kernel
theorem zd80_33 : decode zxm80.2.1 33 = .ok (.iload_n 2, 1) := by decide +kernel
theorem zd80_34 : decode zxm80.2.1 34 = .ok (.ishl, 1) := by decide +kernel
theorem zd80_35 : decode zxm80.2.1 35 = .ok (.ior, 1) := by decide +kernel
theorem zd80_36 : decode zxm80.2.1 36 = .ok (.ior, 1) := by decide +kernel
theorem zd80_37 : decode zxm80.2.1 37 = .ok (.putfield 15, 3) := by decide +kernel
theorem zd80_40 : decode zxm80.2.1 40 = .ok (.aload_n 0, 1) := by decide +kernel
theorem zd80_41 : decode zxm80.2.1 41 = .ok (.dup, 1) := by decide +kernel
theorem zd80_42 : decode zxm80.2.1 42 = .ok (.getfield 9, 3) := by decide +kernel
theorem zd80_45 : decode zxm80.2.1 45 = .ok (.iconst 1, 1) := by decide +kernel
theorem zd80_46 : decode zxm80.2.1 46 = .ok (.iadd, 1) := by decide +kernel
theorem zd80_47 : decode zxm80.2.1 47 = .ok (.putfield 9, 3) := by decide +kernel
theorem zd80_50 : decode zxm80.2.1 50 = .ok (.return_, 1) := by decide +kernel
theorem zt_Tale_addLine {x1 : Int} {x2 : Int} {f0 : Int} {f1 : Int} {g0 : (Int → Int)} {o : Int × Int × (Int → Int)} (h : zf_Tale_addLine x1 x2 f0 f1 g0 = some o) : zv_Fn z_TB z_cl z_KX zy_Tale_addLine zxm80 (0, 0) [.inr 0, .inl x1, .inl x2] [.inl f0, .inl f1] [g0] none [.inl o.1, .inl o.2.1] [o.2.2] := zv_meth (K := (z_KF9, z_KC9, z_KL9, z_KT9, [], [], [], none)) (FT := z_FT) (MT := z_MT) (n := 3) zxp80 (z_ks9 _ (fun _ h => List.mem_cons_of_mem _ h) _ _ _ _ (fun j r h _ => by cases h)) (fun _ _ => zs_KX_p) zyw_Tale_addLine (fun va F G h => by obtain ⟨rfl, _⟩ := h; rfl) (fun va F G h => by obtain ⟨rfl, _⟩ := h; rfl) rfl fun good va F G hB hret hvret hP => by
  obtain ⟨rfl, rfl, rfl⟩ := hP
  unfold zf_Tale_addLine at h
  refine zv_ald hB zd80_0 rfl rfl rfl ?_
  refine zv_getr hB zd80_1 rfl ?_
  refine zv_ild hB zd80_4 rfl rfl ?_
  refine zv_dup2 hB zd80_5 rfl rfl ?_
  obtain ⟨c1, h⟩ := zi_if h
  refine zv_iald hB zd80_6 rfl rfl (zi_ix_ok c1).1 (zi_ix_ok c1).2 (fun _ _ => ?_)
  refine zv_con hB zd80_7 rfl ?_
  refine zv_ild hB zd80_8 rfl rfl ?_
  refine zv_shlw hB zd80_9 ?_
  refine zv_orw hB zd80_10 ?_
  refine zv_iast hB zd80_11 rfl rfl (zi_ix_ok c1).1 (zi_ix_ok c1).2 ?_
  refine zv_ald hB zd80_12 rfl rfl rfl ?_
  refine zv_getr hB zd80_13 rfl ?_
  refine zv_ild hB zd80_16 rfl rfl ?_
  refine zv_dup2 hB zd80_17 rfl rfl ?_
  obtain ⟨c2, h⟩ := zi_if h
  refine zv_iald hB zd80_18 rfl rfl (zi_ix_ok c2).1 (zi_ix_ok c2).2 (fun _ _ => ?_)
  refine zv_con hB zd80_19 rfl ?_
  refine zv_ild hB zd80_20 rfl rfl ?_
  refine zv_shlw hB zd80_21 ?_
  refine zv_orw hB zd80_22 ?_
  refine zv_iast hB zd80_23 rfl rfl (zi_ix_ok c2).1 (zi_ix_ok c2).2 ?_
  refine zv_ald hB zd80_24 rfl rfl rfl ?_
  refine zv_dup hB zd80_25 rfl ?_
  refine zv_getf hB zd80_26 rfl rfl (fun _ _ => ?_)
  refine zv_con hB zd80_29 rfl ?_
  refine zv_ild hB zd80_30 rfl rfl ?_
  refine zv_shlw hB zd80_31 ?_
  refine zv_con hB zd80_32 rfl ?_
  refine zv_ild hB zd80_33 rfl rfl ?_
  refine zv_shlw hB zd80_34 ?_
  refine zv_orw hB zd80_35 ?_
  refine zv_orw hB zd80_36 ?_
  refine zv_putf hB zd80_37 rfl rfl (fun h => by cases h) rfl ?_
  refine zv_ald hB zd80_40 rfl rfl rfl ?_
  refine zv_dup hB zd80_41 rfl ?_
  refine zv_getf hB zd80_42 rfl rfl (fun _ _ => ?_)
  refine zv_con hB zd80_45 rfl ?_
  refine zv_addw hB zd80_46 ?_
  refine zv_putf hB zd80_47 rfl rfl (fun h => by cases h) rfl ?_
  have hw := Option.some.inj h
  subst hw
  exact hvret _ _ _ _ zd80_50 trivial ⟨rfl, rfl, rfl⟩
end
section
/-! Methods as functions, and that they do what these do. -/
/-! Tale_read_220 ([II)I -/
-- names: 0 Tale('arg', 0), 1 (0, 220)('arg', 1), 2 (0, 8)(0, 6, 2)
-- fields: f0 = 0.lines_, f1 = 0.names_; arrays: g0 = 1, g1 = 2; out: [('ret', None), ('f', 0), ('f', 1), ('g', 1)]
abbrev zy_Tale_read_220 : zNL := (3, [(0, 6)], [(0, 6, 0, 0), (0, 6, 1, 1)], [(0, 6, 2, 2)], [(1, 0, 220, 0), (2, 0, 8, 1)])
theorem zyw_Tale_read_220 : zv_wf zy_Tale_read_220 = true := by decide +kernel
theorem zye_Tale_read_220 : zv_ek2 zy_Tale_read_220 = true := by decide +kernel
def zf_Tale_read_220_l0_b (x2 : Int) (g0 : (Int → Int)) (rec : Int → Int → Int → (Int → Int) → Option (((Int × Int × Int × (Int → Int)) ⊕ (Int × Int × Int × (Int → Int))))) (x3 : Int) (f0 : Int) (f1 : Int) (g1 : (Int → Int)) : Option (((Int × Int × Int × (Int → Int)) ⊕ (Int × Int × Int × (Int → Int)))) := if x3 < x2 then (if 12 < f0 then (some (.inl (x3, f0, f1, g1))) else ((zf_Tale_nameAt_220 x2 x3 g0).bind fun r4 => (if r4 = (-1) then ((zf_X_faultAt 1 x3).bind fun r21 => (some (.inr (r21, f0, f1, g1)))) else (if f0 = 12 then ((zf_X_faultAt 4 x3).bind fun r20 => (some (.inr (r20, f0, f1, g1)))) else ((zf_Tale_nameAt_220 x2 (zi_w (x3 + 1)) g0).bind fun r7 => (if r7 = (-1) then ((zf_X_faultAt 1 (zi_w (x3 + 1))).bind fun r19 => (some (.inr (r19, f0, f1, g1)))) else (if r7 = r4 then ((zf_X_faultAt 3 (zi_w (x3 + 1))).bind fun r18 => (some (.inr (r18, f0, f1, g1)))) else (cond (zi_ix r4 8) (if (zi_and (zi_shr (g1 r4) r7) 1) = 0 then ((zf_Tale_addLine r4 r7 f1 f0 g1).bind fun r12 => (if (zi_w (x3 + 2)) = x2 then (some (.inr (r12.2.1, r12.2.1, r12.1, r12.2.2))) else (cond (zi_ix (zi_w (x3 + 2)) 220) (if (g0 (zi_w (x3 + 2))) = 59 then (rec (zi_w ((zi_w (x3 + 2)) + 1)) r12.2.1 r12.1 r12.2.2) else ((zf_X_faultAt 1 (zi_w (x3 + 2))).bind fun r16 => (some (.inr (r16, r12.2.1, r12.1, r12.2.2))))) none))) else ((zf_X_faultAt 6 x3).bind fun r17 => (some (.inr (r17, f0, f1, g1))))) none)))))))) else (some (.inl (x3, f0, f1, g1)))
def zf_Tale_read_220_l0 (x2 : Int) (g0 : (Int → Int)) : Nat → Int → Int → Int → (Int → Int) → Option (((Int × Int × Int × (Int → Int)) ⊕ (Int × Int × Int × (Int → Int))))
  | 0, _, _, _, _ => none
  | n + 1, x3, f0, f1, g1 => zf_Tale_read_220_l0_b x2 g0 (zf_Tale_read_220_l0 x2 g0 n) x3 f0 f1 g1
def zf_Tale_read_220 (x2 : Int) (f0 : Int) (f1 : Int) (g0 : (Int → Int)) (g1 : (Int → Int)) : Option (Int × Int × Int × (Int → Int)) := (zf_Arrays_fill_8 0 g1).bind fun r1 => ((zf_Tale_read_220_l0 x2 g0 zi_fu 0 0 0 r1).bind fun q22 => Sum.elim (fun e23 => ((zf_X_faultAt 1 e23.1).bind fun r24 => (some (r24, e23.2.1, e23.2.2.1, e23.2.2.2)))) (fun w25 => some w25) q22)
theorem zd77_0 : decode zxm77.2.1 0 = .ok (.aload_n 0, 1) := by decide +kernel
theorem zd77_1 : decode zxm77.2.1 1 = .ok (.iconst 0, 1) := by decide +kernel
theorem zd77_2 : decode zxm77.2.1 2 = .ok (.putfield 9, 3) := by decide +kernel
theorem zd77_5 : decode zxm77.2.1 5 = .ok (.aload_n 0, 1) := by decide +kernel
theorem zd77_6 : decode zxm77.2.1 6 = .ok (.iconst 0, 1) := by decide +kernel
theorem zd77_7 : decode zxm77.2.1 7 = .ok (.putfield 15, 3) := by decide +kernel
theorem zd77_10 : decode zxm77.2.1 10 = .ok (.aload_n 0, 1) := by decide +kernel
theorem zd77_11 : decode zxm77.2.1 11 = .ok (.getfield 18, 3) := by decide +kernel
theorem zd77_14 : decode zxm77.2.1 14 = .ok (.iconst 0, 1) := by decide +kernel
theorem zd77_15 : decode zxm77.2.1 15 = .ok (.invokestatic 22, 3) := by decide +kernel
theorem zd77_18 : decode zxm77.2.1 18 = .ok (.iconst 0, 1) := by decide +kernel
theorem zd77_19 : decode zxm77.2.1 19 = .ok (.istore_n 3, 1) := by decide +kernel
theorem zd77_20 : decode zxm77.2.1 20 = .ok (.iload_n 3, 1) := by decide +kernel
theorem zd77_21 : decode zxm77.2.1 21 = .ok (.iload_n 2, 1) := by decide +kernel
theorem zd77_22 : decode zxm77.2.1 22 = .ok (.if_icmp .ge 149, 3) := by decide +kernel
theorem zd77_25 : decode zxm77.2.1 25 = .ok (.aload_n 0, 1) := by decide +kernel
theorem zd77_26 : decode zxm77.2.1 26 = .ok (.getfield 9, 3) := by decide +kernel
theorem zd77_29 : decode zxm77.2.1 29 = .ok (.bipush 12, 2) := by decide +kernel
theorem zd77_31 : decode zxm77.2.1 31 = .ok (.if_icmp .gt 140, 3) := by decide +kernel
theorem zd77_34 : decode zxm77.2.1 34 = .ok (.aload_n 1, 1) := by decide +kernel
theorem zd77_35 : decode zxm77.2.1 35 = .ok (.iload_n 2, 1) := by decide +kernel
theorem zd77_36 : decode zxm77.2.1 36 = .ok (.iload_n 3, 1) := by decide +kernel
theorem zd77_37 : decode zxm77.2.1 37 = .ok (.invokestatic 28, 3) := by decide +kernel
theorem zd77_40 : decode zxm77.2.1 40 = .ok (.istore 4, 2) := by decide +kernel
theorem zd77_42 : decode zxm77.2.1 42 = .ok (.iload 4, 2) := by decide +kernel
theorem zd77_44 : decode zxm77.2.1 44 = .ok (.iconst (-1), 1) := by decide +kernel
theorem zd77_45 : decode zxm77.2.1 45 = .ok (.if_icmp .ne 9, 3) := by decide +kernel
theorem zd77_48 : decode zxm77.2.1 48 = .ok (.iconst 1, 1) := by decide +kernel
theorem zd77_49 : decode zxm77.2.1 49 = .ok (.iload_n 3, 1) := by decide +kernel
theorem zd77_50 : decode zxm77.2.1 50 = .ok (.invokestatic 32, 3) := by decide +kernel
theorem zd77_53 : decode zxm77.2.1 53 = .ok (.ireturn, 1) := by decide +kernel
theorem zd77_54 : decode zxm77.2.1 54 = .ok (.aload_n 0, 1) := by decide +kernel
theorem zd77_55 : decode zxm77.2.1 55 = .ok (.getfield 9, 3) := by decide +kernel
theorem zd77_58 : decode zxm77.2.1 58 = .ok (.bipush 12, 2) := by decide +kernel
theorem zd77_60 : decode zxm77.2.1 60 = .ok (.if_icmp .ne 9, 3) := by decide +kernel
theorem zd77_63 : decode zxm77.2.1 63 = .ok (.iconst 4, 1) := by decide +kernel
theorem zd77_64 : decode zxm77.2.1 64 = .ok (.iload_n 3, 1) := by decide +kernel
theorem zd77_65 : decode zxm77.2.1 65 = .ok (.invokestatic 32, 3) := by decide +kernel
theorem zd77_68 : decode zxm77.2.1 68 = .ok (.ireturn, 1) := by decide +kernel
theorem zd77_69 : decode zxm77.2.1 69 = .ok (.aload_n 1, 1) := by decide +kernel
theorem zd77_70 : decode zxm77.2.1 70 = .ok (.iload_n 2, 1) := by decide +kernel
theorem zd77_71 : decode zxm77.2.1 71 = .ok (.iload_n 3, 1) := by decide +kernel
theorem zd77_72 : decode zxm77.2.1 72 = .ok (.iconst 1, 1) := by decide +kernel
theorem zd77_73 : decode zxm77.2.1 73 = .ok (.iadd, 1) := by decide +kernel
theorem zd77_74 : decode zxm77.2.1 74 = .ok (.invokestatic 28, 3) := by decide +kernel
theorem zd77_77 : decode zxm77.2.1 77 = .ok (.istore 5, 2) := by decide +kernel
theorem zd77_79 : decode zxm77.2.1 79 = .ok (.iload 5, 2) := by decide +kernel
theorem zd77_81 : decode zxm77.2.1 81 = .ok (.iconst (-1), 1) := by decide +kernel
theorem zd77_82 : decode zxm77.2.1 82 = .ok (.if_icmp .ne 11, 3) := by decide +kernel
theorem zd77_85 : decode zxm77.2.1 85 = .ok (.iconst 1, 1) := by decide +kernel
theorem zd77_86 : decode zxm77.2.1 86 = .ok (.iload_n 3, 1) := by decide +kernel
theorem zd77_87 : decode zxm77.2.1 87 = .ok (.iconst 1, 1) := by decide +kernel
theorem zd77_88 : decode zxm77.2.1 88 = .ok (.iadd, 1) := by decide +kernel
theorem zd77_89 : decode zxm77.2.1 89 = .ok (.invokestatic 32, 3) := by decide +kernel
theorem zd77_92 : decode zxm77.2.1 92 = .ok (.ireturn, 1) := by decide +kernel
theorem zd77_93 : decode zxm77.2.1 93 = .ok (.iload 5, 2) := by decide +kernel
theorem zd77_95 : decode zxm77.2.1 95 = .ok (.iload 4, 2) := by decide +kernel
theorem zd77_97 : decode zxm77.2.1 97 = .ok (.if_icmp .ne 11, 3) := by decide +kernel
theorem zd77_100 : decode zxm77.2.1 100 = .ok (.iconst 3, 1) := by decide +kernel
theorem zd77_101 : decode zxm77.2.1 101 = .ok (.iload_n 3, 1) := by decide +kernel
theorem zd77_102 : decode zxm77.2.1 102 = .ok (.iconst 1, 1) := by decide +kernel
theorem zd77_103 : decode zxm77.2.1 103 = .ok (.iadd, 1) := by decide +kernel
theorem zd77_104 : decode zxm77.2.1 104 = .ok (.invokestatic 32, 3) := by decide +kernel
theorem zd77_107 : decode zxm77.2.1 107 = .ok (.ireturn, 1) := by decide +kernel
theorem zd77_108 : decode zxm77.2.1 108 = .ok (.aload_n 0, 1) := by decide +kernel
theorem zd77_109 : decode zxm77.2.1 109 = .ok (.getfield 18, 3) := by decide +kernel
theorem zd77_112 : decode zxm77.2.1 112 = .ok (.iload 4, 2) := by decide +kernel
theorem zd77_114 : decode zxm77.2.1 114 = .ok (.iaload, 1) := by decide +kernel
theorem zd77_115 : decode zxm77.2.1 115 = .ok (.iload 5, 2) := by decide +kernel
theorem zd77_117 : decode zxm77.2.1 117 = .ok (.ishr, 1) := by decide +kernel
theorem zd77_118 : decode zxm77.2.1 118 = .ok (.iconst 1, 1) := by decide +kernel
theorem zd77_119 : decode zxm77.2.1 119 = .ok (.iand, 1) := by decide +kernel
theorem zd77_120 : decode zxm77.2.1 120 = .ok (.ifCond .eq 10, 3) := by decide +kernel
theorem zd77_123 : decode zxm77.2.1 123 = .ok (.bipush 6, 2) := by decide +kernel
theorem zd77_125 : decode zxm77.2.1 125 = .ok (.iload_n 3, 1) := by decide +kernel
theorem zd77_126 : decode zxm77.2.1 126 = .ok (.invokestatic 32, 3) := by decide +kernel
theorem zd77_129 : decode zxm77.2.1 129 = .ok (.ireturn, 1) := by decide +kernel
theorem zd77_130 : decode zxm77.2.1 130 = .ok (.aload_n 0, 1) := by decide +kernel
theorem zd77_131 : decode zxm77.2.1 131 = .ok (.iload 4, 2) := by decide +kernel
theorem zd77_133 : decode zxm77.2.1 133 = .ok (.iload 5, 2) := by decide +kernel
theorem zd77_135 : decode zxm77.2.1 135 = .ok (.invokevirtual 36, 3) := by decide +kernel
theorem zd77_138 : decode zxm77.2.1 138 = .ok (.iinc 3 2, 3) := by decide +kernel
theorem zd77_141 : decode zxm77.2.1 141 = .ok (.iload_n 3, 1) := by decide +kernel
theorem zd77_142 : decode zxm77.2.1 142 = .ok (.iload_n 2, 1) := by decide +kernel
theorem zd77_143 : decode zxm77.2.1 143 = .ok (.if_icmp .ne 8, 3) := by decide +kernel
theorem zd77_146 : decode zxm77.2.1 146 = .ok (.aload_n 0, 1) := by decide +kernel
theorem zd77_147 : decode zxm77.2.1 147 = .ok (.getfield 9, 3) := by decide +kernel
theorem zd77_150 : decode zxm77.2.1 150 = .ok (.ireturn, 1) := by decide +kernel
theorem zd77_151 : decode zxm77.2.1 151 = .ok (.aload_n 1, 1) := by decide +kernel
theorem zd77_152 : decode zxm77.2.1 152 = .ok (.iload_n 3, 1) := by decide +kernel
theorem zd77_153 : decode zxm77.2.1 153 = .ok (.iaload, 1) := by decide +kernel
theorem zd77_154 : decode zxm77.2.1 154 = .ok (.bipush 59, 2) := by decide +kernel
theorem zd77_156 : decode zxm77.2.1 156 = .ok (.if_icmp .eq 9, 3) := by decide +kernel
theorem zd77_159 : decode zxm77.2.1 159 = .ok (.iconst 1, 1) := by decide +kernel
theorem zd77_160 : decode zxm77.2.1 160 = .ok (.iload_n 3, 1) := by decide +kernel
theorem zd77_161 : decode zxm77.2.1 161 = .ok (.invokestatic 32, 3) := by decide +kernel
theorem zd77_164 : decode zxm77.2.1 164 = .ok (.ireturn, 1) := by decide +kernel
theorem zd77_165 : decode zxm77.2.1 165 = .ok (.iinc 3 1, 3) := by decide +kernel
theorem zd77_168 : decode zxm77.2.1 168 = .ok (.goto (-148), 3) := by decide +kernel
theorem zd77_171 : decode zxm77.2.1 171 = .ok (.iconst 1, 1) := by decide +kernel
theorem zd77_172 : decode zxm77.2.1 172 = .ok (.iload_n 3, 1) := by decide +kernel
theorem zd77_173 : decode zxm77.2.1 173 = .ok (.invokestatic 32, 3) := by decide +kernel
theorem zd77_176 : decode zxm77.2.1 176 = .ok (.ireturn, 1) := by decide +kernel
theorem zt_Tale_read_220 {x2 : Int} {f0 : Int} {f1 : Int} {g0 : (Int → Int)} {g1 : (Int → Int)} {o : Int × Int × Int × (Int → Int)} (h : zf_Tale_read_220 x2 f0 f1 g0 g1 = some o) : zv_Fn z_TB z_cl z_KX zy_Tale_read_220 zxm77 (1, 60) [.inr 0, .inr 1, .inl x2] [.inl f0, .inl f1] [g0, g1] (some o.1) [.inl o.2.1, .inl o.2.2.1] [g0, o.2.2.2] := zv_meth (K := (z_KF9, z_KC9, z_KL9, z_KT9, [], [], [], none)) (FT := z_FT) (MT := z_MT) (n := 3) zxp77 (z_ks9 _ (fun _ h => List.mem_cons_of_mem _ h) _ _ _ _ (fun j r h _ => by cases h)) (fun _ _ => zs_KX_p) zyw_Tale_read_220 (fun va F G h => by obtain ⟨rfl, _⟩ := h; rfl) (fun va F G h => by obtain ⟨rfl, _⟩ := h; rfl) rfl fun good va F G hB hret hvret hP => by
  obtain ⟨rfl, rfl, rfl⟩ := hP
  have l0 : ∀ (n : Nat) (x2 : Int) (x3 : Int) (f0 : Int) (f1 : Int) (g1 : (Int → Int)) (q : ((Int × Int × Int × (Int → Int)) ⊕ (Int × Int × Int × (Int → Int)))), zf_Tale_read_220_l0 x2 g0 n x3 f0 f1 g1 = some q → (Sum.elim (fun e : Int × Int × Int × (Int → Int) => good 171 [.inr 1000, .inr 1000, .inr 1000, .inl e.1, .inr 1000, .inr 1000] [] [.inl e.2.1, .inl e.2.2.1] [g0, e.2.2.2]) (fun w : Int × Int × Int × (Int → Int) => w = o) q) → good 20 [.inr 0, .inr 1, .inl x2, .inl x3, .inr 1000, .inr 1000] [] [.inl f0, .inl f1] [g0, g1] := by
    intro n
    induction n with
    | zero => intro x2 x3 f0 f1 g1 q h; exact absurd (show none = some q from h) (fun h => by cases h)
    | succ n ih =>
      intro x2 x3 f0 f1 g1 q h hK
      replace h : zf_Tale_read_220_l0_b x2 g0 (zf_Tale_read_220_l0 x2 g0 n) x3 f0 f1 g1 = some q := h
      unfold zf_Tale_read_220_l0_b at h
      refine zv_ild hB zd77_20 rfl rfl ?_
      refine zv_ild hB zd77_21 rfl rfl ?_
      refine zv_cge hB zd77_22 rfl (fun hc2 => ?_) (fun hc2 => ?_)
      · rw [if_neg (Int.not_lt.mpr hc2)] at h
        have hq := Option.some.inj h
        subst hq
        refine zv_wk hB (L' := [.inr 1000, .inr 1000, .inr 1000, .inl x3, .inr 1000, .inr 1000]) (F' := [.inl f0, .inl f1]) ⟨fun (h : zv_is (.inr 1000)) => (Nat.lt_irrefl 1000 h).elim, fun (h : zv_is (.inr 1000)) => (Nat.lt_irrefl 1000 h).elim, fun (h : zv_is (.inr 1000)) => (Nat.lt_irrefl 1000 h).elim, fun _ => rfl, fun (h : zv_is (.inr 1000)) => (Nat.lt_irrefl 1000 h).elim, fun (h : zv_is (.inr 1000)) => (Nat.lt_irrefl 1000 h).elim, trivial⟩ ⟨fun _ => rfl, fun _ => rfl, trivial⟩ ?_
        exact hK
      · rw [if_pos hc2] at h
        refine zv_ald hB zd77_25 rfl rfl rfl ?_
        refine zv_getf hB zd77_26 rfl rfl (fun _ _ => ?_)
        refine zv_con hB zd77_29 rfl ?_
        refine zv_cgt hB zd77_31 rfl (fun hc3 => ?_) (fun hc3 => ?_)
        · rw [if_pos hc3] at h
          have hq := Option.some.inj h
          subst hq
          refine zv_wk hB (L' := [.inr 1000, .inr 1000, .inr 1000, .inl x3, .inr 1000, .inr 1000]) (F' := [.inl f0, .inl f1]) ⟨fun (h : zv_is (.inr 1000)) => (Nat.lt_irrefl 1000 h).elim, fun (h : zv_is (.inr 1000)) => (Nat.lt_irrefl 1000 h).elim, fun (h : zv_is (.inr 1000)) => (Nat.lt_irrefl 1000 h).elim, fun _ => rfl, fun (h : zv_is (.inr 1000)) => (Nat.lt_irrefl 1000 h).elim, fun (h : zv_is (.inr 1000)) => (Nat.lt_irrefl 1000 h).elim, trivial⟩ ⟨fun _ => rfl, fun _ => rfl, trivial⟩ ?_
          exact hK
        · rw [if_neg (Int.not_lt.mpr hc3)] at h
          refine zv_ald hB zd77_34 rfl rfl rfl ?_
          refine zv_ild hB zd77_35 rfl rfl ?_
          refine zv_ild hB zd77_36 rfl rfl ?_
          obtain ⟨r4, hr4, h⟩ := zi_bind h
          refine zv_cs hB (zv_emq (va2 := [.inr 1, .inl x2, .inl x3]) (F := [.inl f0, .inl f1]) (F' := [.inl f0, .inl f1]) (G := [g0, g1]) (G' := [g0, g1]) (ρ := [1]) (φ := []) (ψ := [0]) [none, none] [some 0, none] zyw_Tale_nameAt_220 zyw_Tale_read_220 zye_Tale_read_220 (by decide +kernel) (zt_Tale_nameAt_220 hr4) trivial ⟨rfl, trivial⟩ rfl rfl rfl rfl rfl rfl rfl) zd77_37 zxt79 rfl (by decide) (by decide) rfl ?_
          refine zv_ist hB zd77_40 rfl rfl rfl ?_
          refine zv_ild hB zd77_42 rfl rfl ?_
          refine zv_con hB zd77_44 rfl ?_
          refine zv_cne hB zd77_45 rfl (fun hc5 => ?_) (fun hc5 => ?_)
          · rw [if_neg hc5] at h
            refine zv_ald hB zd77_54 rfl rfl rfl ?_
            refine zv_getf hB zd77_55 rfl rfl (fun _ _ => ?_)
            refine zv_con hB zd77_58 rfl ?_
            refine zv_cne hB zd77_60 rfl (fun hc6 => ?_) (fun hc6 => ?_)
            · rw [if_neg hc6] at h
              refine zv_ald hB zd77_69 rfl rfl rfl ?_
              refine zv_ild hB zd77_70 rfl rfl ?_
              refine zv_ild hB zd77_71 rfl rfl ?_
              refine zv_con hB zd77_72 rfl ?_
              refine zv_addw hB zd77_73 ?_
              obtain ⟨r7, hr7, h⟩ := zi_bind h
              refine zv_cs hB (zv_emq (va2 := [.inr 1, .inl x2, .inl (zi_w (x3 + 1))]) (F := [.inl f0, .inl f1]) (F' := [.inl f0, .inl f1]) (G := [g0, g1]) (G' := [g0, g1]) (ρ := [1]) (φ := []) (ψ := [0]) [none, none] [some 0, none] zyw_Tale_nameAt_220 zyw_Tale_read_220 zye_Tale_read_220 (by decide +kernel) (zt_Tale_nameAt_220 hr7) trivial ⟨rfl, trivial⟩ rfl rfl rfl rfl rfl rfl rfl) zd77_74 zxt79 rfl (by decide) (by decide) rfl ?_
              refine zv_ist hB zd77_77 rfl rfl rfl ?_
              refine zv_ild hB zd77_79 rfl rfl ?_
              refine zv_con hB zd77_81 rfl ?_
              refine zv_cne hB zd77_82 rfl (fun hc8 => ?_) (fun hc8 => ?_)
              · rw [if_neg hc8] at h
                refine zv_ild hB zd77_93 rfl rfl ?_
                refine zv_ild hB zd77_95 rfl rfl ?_
                refine zv_cne hB zd77_97 rfl (fun hc9 => ?_) (fun hc9 => ?_)
                · rw [if_neg hc9] at h
                  refine zv_ald hB zd77_108 rfl rfl rfl ?_
                  refine zv_getr hB zd77_109 rfl ?_
                  refine zv_ild hB zd77_112 rfl rfl ?_
                  obtain ⟨c10, h⟩ := zi_if h
                  refine zv_iald hB zd77_114 rfl rfl (zi_ix_ok c10).1 (zi_ix_ok c10).2 (fun _ _ => ?_)
                  refine zv_ild hB zd77_115 rfl rfl ?_
                  refine zv_shrw hB zd77_117 ?_
                  refine zv_con hB zd77_118 rfl ?_
                  refine zv_andw hB zd77_119 ?_
                  refine zv_zeq hB zd77_120 rfl (fun hc11 => ?_) (fun hc11 => ?_)
                  · rw [if_pos hc11] at h
                    refine zv_ald hB zd77_130 rfl rfl rfl ?_
                    refine zv_ild hB zd77_131 rfl rfl ?_
                    refine zv_ild hB zd77_133 rfl rfl ?_
                    obtain ⟨r12, hr12, h⟩ := zi_bind h
                    refine zv_cv hB (zv_emq (va2 := [.inr 0, .inl r4, .inl r7]) (F := [.inl f0, .inl f1]) (F' := [.inl r12.2.1, .inl r12.1]) (G := [g0, g1]) (G' := [g0, r12.2.2]) (ρ := [0, 2]) (φ := [1, 0]) (ψ := [1]) [some 1, some 0] [none, some 0] zyw_Tale_addLine zyw_Tale_read_220 zye_Tale_read_220 (by decide +kernel) (zt_Tale_addLine hr12) ⟨⟨_, rfl, fun _ => rfl⟩, ⟨_, rfl, fun _ => rfl⟩, trivial⟩ ⟨rfl, trivial⟩ rfl rfl rfl rfl rfl rfl rfl) zd77_135 zxt80 rfl (by decide) (by decide) rfl ?_
                    refine zv_iincw hB zd77_138 rfl rfl ?_
                    refine zv_ild hB zd77_141 rfl rfl ?_
                    refine zv_ild hB zd77_142 rfl rfl ?_
                    refine zv_cne hB zd77_143 rfl (fun hc13 => ?_) (fun hc13 => ?_)
                    · rw [if_neg hc13] at h
                      refine zv_ald hB zd77_151 rfl rfl rfl ?_
                      refine zv_ild hB zd77_152 rfl rfl ?_
                      obtain ⟨c14, h⟩ := zi_if h
                      refine zv_iald hB zd77_153 rfl rfl (zi_ix_ok c14).1 (zi_ix_ok c14).2 (fun _ _ => ?_)
                      refine zv_con hB zd77_154 rfl ?_
                      refine zv_ceq hB zd77_156 rfl (fun hc15 => ?_) (fun hc15 => ?_)
                      · rw [if_pos hc15] at h
                        refine zv_iincw hB zd77_165 rfl rfl ?_
                        refine zv_goto hB zd77_168 rfl ?_
                        refine zv_wk hB (L' := [.inr 0, .inr 1, .inl x2, .inl (zi_w ((zi_w (x3 + 2)) + 1)), .inr 1000, .inr 1000]) (F' := [.inl r12.2.1, .inl r12.1]) ⟨fun _ => rfl, fun _ => rfl, fun _ => rfl, fun _ => rfl, fun (h : zv_is (.inr 1000)) => (Nat.lt_irrefl 1000 h).elim, fun (h : zv_is (.inr 1000)) => (Nat.lt_irrefl 1000 h).elim, trivial⟩ ⟨fun _ => rfl, fun _ => rfl, trivial⟩ ?_
                        exact ih _ _ _ _ _ q h hK
                      · rw [if_neg hc15] at h
                        refine zv_con hB zd77_159 rfl ?_
                        refine zv_ild hB zd77_160 rfl rfl ?_
                        obtain ⟨r16, hr16, h⟩ := zi_bind h
                        refine zv_cs hB (zv_emq (va2 := [.inl 1, .inl (zi_w (x3 + 2))]) (F := [.inl r12.2.1, .inl r12.1]) (F' := [.inl r12.2.1, .inl r12.1]) (G := [g0, r12.2.2]) (G' := [g0, r12.2.2]) (ρ := []) (φ := []) (ψ := []) [none, none] [none, none] zyw_X_faultAt zyw_Tale_read_220 zye_Tale_read_220 (by decide +kernel) (zt_X_faultAt hr16) trivial trivial rfl rfl rfl rfl rfl rfl rfl) zd77_161 zxt42 rfl (by decide) (by decide) rfl ?_
                        have hw : (r16, r12.2.1, r12.1, r12.2.2) = o := zi_rk (Option.some.inj h) hK
                        subst hw
                        exact hret _ _ _ _ _ zd77_164 (by trivial) ⟨rfl, rfl, rfl⟩
                    · rw [if_pos hc13] at h
                      refine zv_ald hB zd77_146 rfl rfl rfl ?_
                      refine zv_getf hB zd77_147 rfl rfl (fun _ _ => ?_)
                      have hw : (r12.2.1, r12.2.1, r12.1, r12.2.2) = o := zi_rk (Option.some.inj h) hK
                      subst hw
                      exact hret _ _ _ _ _ zd77_150 (by trivial) ⟨rfl, rfl, rfl⟩
                  · rw [if_neg hc11] at h
                    refine zv_con hB zd77_123 rfl ?_
                    refine zv_ild hB zd77_125 rfl rfl ?_
                    obtain ⟨r17, hr17, h⟩ := zi_bind h
                    refine zv_cs hB (zv_emq (va2 := [.inl 6, .inl x3]) (F := [.inl f0, .inl f1]) (F' := [.inl f0, .inl f1]) (G := [g0, g1]) (G' := [g0, g1]) (ρ := []) (φ := []) (ψ := []) [none, none] [none, none] zyw_X_faultAt zyw_Tale_read_220 zye_Tale_read_220 (by decide +kernel) (zt_X_faultAt hr17) trivial trivial rfl rfl rfl rfl rfl rfl rfl) zd77_126 zxt42 rfl (by decide) (by decide) rfl ?_
                    have hw : (r17, f0, f1, g1) = o := zi_rk (Option.some.inj h) hK
                    subst hw
                    exact hret _ _ _ _ _ zd77_129 (by trivial) ⟨rfl, rfl, rfl⟩
                · rw [if_pos hc9] at h
                  refine zv_con hB zd77_100 rfl ?_
                  refine zv_ild hB zd77_101 rfl rfl ?_
                  refine zv_con hB zd77_102 rfl ?_
                  refine zv_addw hB zd77_103 ?_
                  obtain ⟨r18, hr18, h⟩ := zi_bind h
                  refine zv_cs hB (zv_emq (va2 := [.inl 3, .inl (zi_w (x3 + 1))]) (F := [.inl f0, .inl f1]) (F' := [.inl f0, .inl f1]) (G := [g0, g1]) (G' := [g0, g1]) (ρ := []) (φ := []) (ψ := []) [none, none] [none, none] zyw_X_faultAt zyw_Tale_read_220 zye_Tale_read_220 (by decide +kernel) (zt_X_faultAt hr18) trivial trivial rfl rfl rfl rfl rfl rfl rfl) zd77_104 zxt42 rfl (by decide) (by decide) rfl ?_
                  have hw : (r18, f0, f1, g1) = o := zi_rk (Option.some.inj h) hK
                  subst hw
                  exact hret _ _ _ _ _ zd77_107 (by trivial) ⟨rfl, rfl, rfl⟩
              · rw [if_pos hc8] at h
                refine zv_con hB zd77_85 rfl ?_
                refine zv_ild hB zd77_86 rfl rfl ?_
                refine zv_con hB zd77_87 rfl ?_
                refine zv_addw hB zd77_88 ?_
                obtain ⟨r19, hr19, h⟩ := zi_bind h
                refine zv_cs hB (zv_emq (va2 := [.inl 1, .inl (zi_w (x3 + 1))]) (F := [.inl f0, .inl f1]) (F' := [.inl f0, .inl f1]) (G := [g0, g1]) (G' := [g0, g1]) (ρ := []) (φ := []) (ψ := []) [none, none] [none, none] zyw_X_faultAt zyw_Tale_read_220 zye_Tale_read_220 (by decide +kernel) (zt_X_faultAt hr19) trivial trivial rfl rfl rfl rfl rfl rfl rfl) zd77_89 zxt42 rfl (by decide) (by decide) rfl ?_
                have hw : (r19, f0, f1, g1) = o := zi_rk (Option.some.inj h) hK
                subst hw
                exact hret _ _ _ _ _ zd77_92 (by trivial) ⟨rfl, rfl, rfl⟩
            · rw [if_pos hc6] at h
              refine zv_con hB zd77_63 rfl ?_
              refine zv_ild hB zd77_64 rfl rfl ?_
              obtain ⟨r20, hr20, h⟩ := zi_bind h
              refine zv_cs hB (zv_emq (va2 := [.inl 4, .inl x3]) (F := [.inl f0, .inl f1]) (F' := [.inl f0, .inl f1]) (G := [g0, g1]) (G' := [g0, g1]) (ρ := []) (φ := []) (ψ := []) [none, none] [none, none] zyw_X_faultAt zyw_Tale_read_220 zye_Tale_read_220 (by decide +kernel) (zt_X_faultAt hr20) trivial trivial rfl rfl rfl rfl rfl rfl rfl) zd77_65 zxt42 rfl (by decide) (by decide) rfl ?_
              have hw : (r20, f0, f1, g1) = o := zi_rk (Option.some.inj h) hK
              subst hw
              exact hret _ _ _ _ _ zd77_68 (by trivial) ⟨rfl, rfl, rfl⟩
          · rw [if_pos hc5] at h
            refine zv_con hB zd77_48 rfl ?_
            refine zv_ild hB zd77_49 rfl rfl ?_
            obtain ⟨r21, hr21, h⟩ := zi_bind h
            refine zv_cs hB (zv_emq (va2 := [.inl 1, .inl x3]) (F := [.inl f0, .inl f1]) (F' := [.inl f0, .inl f1]) (G := [g0, g1]) (G' := [g0, g1]) (ρ := []) (φ := []) (ψ := []) [none, none] [none, none] zyw_X_faultAt zyw_Tale_read_220 zye_Tale_read_220 (by decide +kernel) (zt_X_faultAt hr21) trivial trivial rfl rfl rfl rfl rfl rfl rfl) zd77_50 zxt42 rfl (by decide) (by decide) rfl ?_
            have hw : (r21, f0, f1, g1) = o := zi_rk (Option.some.inj h) hK
            subst hw
            exact hret _ _ _ _ _ zd77_53 (by trivial) ⟨rfl, rfl, rfl⟩
  unfold zf_Tale_read_220 at h
  refine zv_ald hB zd77_0 rfl rfl rfl ?_
  refine zv_con hB zd77_1 rfl ?_
  refine zv_putf hB zd77_2 rfl rfl (fun h => by cases h) rfl ?_
  refine zv_ald hB zd77_5 rfl rfl rfl ?_
  refine zv_con hB zd77_6 rfl ?_
  refine zv_putf hB zd77_7 rfl rfl (fun h => by cases h) rfl ?_
  refine zv_ald hB zd77_10 rfl rfl rfl ?_
  refine zv_getr hB zd77_11 rfl ?_
  refine zv_con hB zd77_14 rfl ?_
  obtain ⟨r1, hr1, h⟩ := zi_bind h
  refine zv_cs hB (zv_emq (va2 := [.inr 2, .inl 0]) (F := [.inl 0, .inl 0]) (F' := [.inl 0, .inl 0]) (G := [g0, g1]) (G' := [g0, r1]) (ρ := [2]) (φ := []) (ψ := [1]) [none, none] [none, some 0] zyw_Arrays_fill_8 zyw_Tale_read_220 zye_Tale_read_220 (by decide +kernel) (zt_Arrays_fill_8 hr1) trivial ⟨rfl, trivial⟩ rfl rfl rfl rfl rfl rfl rfl) zd77_15 zxt78 rfl (by decide) (by decide) rfl ?_
  refine zv_con hB zd77_18 rfl ?_
  refine zv_ist hB zd77_19 rfl rfl rfl ?_
  obtain ⟨q22, hq22, h⟩ := zi_bind h
  refine l0 _ _ _ _ _ _ q22 hq22 ?_
  rcases q22 with e23 | w25
  · replace h := zi_sl h
    show good 171 [.inr 1000, .inr 1000, .inr 1000, .inl e23.1, .inr 1000, .inr 1000] [] [.inl e23.2.1, .inl e23.2.2.1] [g0, e23.2.2.2]
    refine zv_con hB zd77_171 rfl ?_
    refine zv_ild hB zd77_172 rfl rfl ?_
    obtain ⟨r24, hr24, h⟩ := zi_bind h
    refine zv_cs hB (zv_emq (va2 := [.inl 1, .inl e23.1]) (F := [.inl e23.2.1, .inl e23.2.2.1]) (F' := [.inl e23.2.1, .inl e23.2.2.1]) (G := [g0, e23.2.2.2]) (G' := [g0, e23.2.2.2]) (ρ := []) (φ := []) (ψ := []) [none, none] [none, none] zyw_X_faultAt zyw_Tale_read_220 zye_Tale_read_220 (by decide +kernel) (zt_X_faultAt hr24) trivial trivial rfl rfl rfl rfl rfl rfl rfl) zd77_173 zxt42 rfl (by decide) (by decide) rfl ?_
    have hw := Option.some.inj h
    subst hw
    exact hret _ _ _ _ _ zd77_176 (by trivial) ⟨rfl, rfl, rfl⟩
  · exact Option.some.inj h
/-! X_tale (I)I -/
-- names: 0 StarTales('arg', 0), 1 Tape(0, 0, 6), 2 Tale(0, 0, 11), 3 (0, 220)(1, 3, 0), 4 (0, 8)(2, 6, 2), 5 Tale(0, 0, 10)
-- fields: f0 = 1.size_, f1 = 0.spareTale_, f2 = 2.lines_, f3 = 2.names_, f4 = 0.telling_; arrays: g0 = 3, g1 = 4; out: [('ret', None), ('f', 0), ('f', 2), ('f', 3), ('g', 1), ('r', 1), ('r', 4)]
abbrev zy_X_tale : zNL := (6, [(0, 0), (1, 3), (2, 6), (5, 6)], [(1, 3, 1, 0), (0, 0, 11, 1), (2, 6, 0, 2), (2, 6, 1, 3), (0, 0, 10, 4)], [(0, 0, 6, 1), (1, 3, 0, 3), (2, 6, 2, 4)], [(3, 0, 220, 0), (4, 0, 8, 1)])
theorem zyw_X_tale : zv_wf zy_X_tale = true := by decide +kernel
theorem zye_X_tale : zv_ek2 zy_X_tale = true := by decide +kernel
def zf_X_tale (x1 : Int) (f0 : Int) (f2 : Int) (f3 : Int) (g0 : (Int → Int)) (g1 : (Int → Int)) : Option (Int × Int × Int × Int × (Int → Int) × Nat × Nat) := (zf_X_isWithin x1 1 60).bind fun r1 => (if r1 = 0 then (some ((-1), f0, f2, f3, g1, 2, 5)) else ((zf_Tape_take x1 f0).bind fun r3 => (if r3.1 = 0 then (some ((-1), r3.2, f2, f3, g1, 2, 5)) else ((zf_Tale_read_220 x1 f2 f3 g0 g1).bind fun r5 => (if 0 < r5.1 then (some (r5.1, r3.2, r5.2.1, r5.2.2.1, r5.2.2.2, 5, 2)) else (some (r5.1, r3.2, r5.2.1, r5.2.2.1, r5.2.2.2, 2, 5)))))))
theorem zd76_0 : decode zxm76.2.1 0 = .ok (.iload_n 1, 1) := by decide +kernel
theorem zd76_1 : decode zxm76.2.1 1 = .ok (.iconst 1, 1) := by decide +kernel
theorem zd76_2 : decode zxm76.2.1 2 = .ok (.bipush 60, 2) := by decide +kernel
theorem zd76_4 : decode zxm76.2.1 4 = .ok (.invokestatic 126, 3) := by decide +kernel
theorem zd76_7 : decode zxm76.2.1 7 = .ok (.ifCond .eq 14, 3) := by decide +kernel
theorem zd76_10 : decode zxm76.2.1 10 = .ok (.aload_n 0, 1) := by decide +kernel
theorem zd76_11 : decode zxm76.2.1 11 = .ok (.getfield 39, 3) := by decide +kernel
theorem zd76_14 : decode zxm76.2.1 14 = .ok (.iload_n 1, 1) := by decide +kernel
theorem zd76_15 : decode zxm76.2.1 15 = .ok (.invokevirtual 197, 3) := by decide +kernel
theorem zd76_18 : decode zxm76.2.1 18 = .ok (.ifCond .ne 5, 3) := by decide +kernel
theorem zd76_21 : decode zxm76.2.1 21 = .ok (.iconst (-1), 1) := by decide +kernel
theorem zd76_22 : decode zxm76.2.1 22 = .ok (.ireturn, 1) := by decide +kernel
theorem zd76_23 : decode zxm76.2.1 23 = .ok (.aload_n 0, 1) := by decide +kernel
theorem zd76_24 : decode zxm76.2.1 24 = .ok (.getfield 73, 3) := by decide +kernel
theorem zd76_27 : decode zxm76.2.1 27 = .ok (.aload_n 0, 1) := by decide +kernel
theorem zd76_28 : decode zxm76.2.1 28 = .ok (.getfield 39, 3) := by decide +kernel
theorem zd76_31 : decode zxm76.2.1 31 = .ok (.getfield 55, 3) := by decide +kernel
theorem zd76_34 : decode zxm76.2.1 34 = .ok (.iload_n 1, 1) := by decide +kernel
theorem zd76_35 : decode zxm76.2.1 35 = .ok (.invokevirtual 204, 3) := by decide +kernel
theorem zd76_38 : decode zxm76.2.1 38 = .ok (.istore_n 2, 1) := by decide +kernel
theorem zd76_39 : decode zxm76.2.1 39 = .ok (.iload_n 2, 1) := by decide +kernel
theorem zd76_40 : decode zxm76.2.1 40 = .ok (.ifCond .le 21, 3) := by decide +kernel
theorem zd76_43 : decode zxm76.2.1 43 = .ok (.aload_n 0, 1) := by decide +kernel
theorem zd76_44 : decode zxm76.2.1 44 = .ok (.getfield 69, 3) := by decide +kernel
theorem zd76_47 : decode zxm76.2.1 47 = .ok (.astore_n 3, 1) := by decide +kernel
theorem zd76_48 : decode zxm76.2.1 48 = .ok (.aload_n 0, 1) := by decide +kernel
theorem zd76_49 : decode zxm76.2.1 49 = .ok (.aload_n 0, 1) := by decide +kernel
theorem zd76_50 : decode zxm76.2.1 50 = .ok (.getfield 73, 3) := by decide +kernel
theorem zd76_53 : decode zxm76.2.1 53 = .ok (.putfield 69, 3) := by decide +kernel
theorem zd76_56 : decode zxm76.2.1 56 = .ok (.aload_n 0, 1) := by decide +kernel
theorem zd76_57 : decode zxm76.2.1 57 = .ok (.aload_n 3, 1) := by decide +kernel
theorem zd76_58 : decode zxm76.2.1 58 = .ok (.putfield 73, 3) := by decide +kernel
theorem zd76_61 : decode zxm76.2.1 61 = .ok (.iload_n 2, 1) := by decide +kernel
theorem zd76_62 : decode zxm76.2.1 62 = .ok (.ireturn, 1) := by decide +kernel
theorem zt_X_tale {x1 : Int} {f0 : Int} {f2 : Int} {f3 : Int} {g0 : (Int → Int)} {g1 : (Int → Int)} {o : Int × Int × Int × Int × (Int → Int) × Nat × Nat} (h : zf_X_tale x1 f0 f2 f3 g0 g1 = some o) : zv_Fn z_TB z_cl z_KX zy_X_tale zxm76 (2, 120) [.inr 0, .inl x1] [.inl f0, .inr 2, .inl f2, .inl f3, .inr 5] [g0, g1] (some o.1) [.inl o.2.1, .inr o.2.2.2.2.2.1, .inl o.2.2.1, .inl o.2.2.2.1, .inr o.2.2.2.2.2.2] [g0, o.2.2.2.2.1] := zv_meth (K := (z_KF0, z_KC0, z_KL0, z_KT0, [], [], [], none)) (FT := z_FT) (MT := z_MT) (n := 2) zxp76 (z_ks0 _ (fun _ h => List.mem_cons_of_mem _ h) _ _ _ _ (fun j r h _ => by cases h)) (fun _ _ => zs_KX_p) zyw_X_tale (fun va F G h => by obtain ⟨rfl, _⟩ := h; rfl) (fun va F G h => by obtain ⟨rfl, _⟩ := h; rfl) rfl fun good va F G hB hret hvret hP => by
  obtain ⟨rfl, rfl, rfl⟩ := hP
  unfold zf_X_tale at h
  refine zv_ild hB zd76_0 rfl rfl ?_
  refine zv_con hB zd76_1 rfl ?_
  refine zv_con hB zd76_2 rfl ?_
  obtain ⟨r1, hr1, h⟩ := zi_bind h
  refine zv_cs hB (zv_emq (va2 := [.inl x1, .inl 1, .inl 60]) (F := [.inl f0, .inr 2, .inl f2, .inl f3, .inr 5]) (F' := [.inl f0, .inr 2, .inl f2, .inl f3, .inr 5]) (G := [g0, g1]) (G' := [g0, g1]) (ρ := []) (φ := []) (ψ := []) [none, none, none, none, none] [none, none] zyw_X_isWithin zyw_X_tale zye_X_tale (by decide +kernel) (zt_X_isWithin hr1) trivial trivial rfl rfl rfl rfl rfl rfl rfl) zd76_4 zxt15 rfl (by decide) (by decide) rfl ?_
  refine zv_zeq hB zd76_7 rfl (fun hc2 => ?_) (fun hc2 => ?_)
  · rw [if_pos hc2] at h
    refine zv_con hB zd76_21 rfl ?_
    have hw := Option.some.inj h
    subst hw
    exact hret _ _ _ _ _ zd76_22 (by trivial) ⟨rfl, rfl, rfl⟩
  · rw [if_neg hc2] at h
    refine zv_ald hB zd76_10 rfl rfl rfl ?_
    refine zv_getr hB zd76_11 rfl ?_
    refine zv_ild hB zd76_14 rfl rfl ?_
    obtain ⟨r3, hr3, h⟩ := zi_bind h
    refine zv_cv hB (zv_emq (va2 := [.inr 1, .inl x1]) (F := [.inl f0, .inr 2, .inl f2, .inl f3, .inr 5]) (F' := [.inl r3.2, .inr 2, .inl f2, .inl f3, .inr 5]) (G := [g0, g1]) (G' := [g0, g1]) (ρ := [1]) (φ := [0]) (ψ := []) [some 0, none, none, none, none] [none, none] zyw_Tape_take zyw_X_tale zye_X_tale (by decide +kernel) (zt_Tape_take hr3) ⟨⟨_, rfl, fun _ => rfl⟩, trivial⟩ trivial rfl rfl rfl rfl rfl rfl rfl) zd76_15 zxt35 rfl (by decide) (by decide) rfl ?_
    refine zv_zne hB zd76_18 rfl (fun hc4 => ?_) (fun hc4 => ?_)
    · rw [if_neg hc4] at h
      refine zv_ald hB zd76_23 rfl rfl rfl ?_
      refine zv_getq hB zd76_24 rfl rfl rfl ?_
      refine zv_ald hB zd76_27 rfl rfl rfl ?_
      refine zv_getr hB zd76_28 rfl ?_
      refine zv_getr hB zd76_31 rfl ?_
      refine zv_ild hB zd76_34 rfl rfl ?_
      obtain ⟨r5, hr5, h⟩ := zi_bind h
      refine zv_cv hB (zv_emq (va2 := [.inr 2, .inr 3, .inl x1]) (F := [.inl r3.2, .inr 2, .inl f2, .inl f3, .inr 5]) (F' := [.inl r3.2, .inr 2, .inl r5.2.1, .inl r5.2.2.1, .inr 5]) (G := [g0, g1]) (G' := [g0, r5.2.2.2]) (ρ := [2, 3, 4]) (φ := [2, 3]) (ψ := [0, 1]) [none, none, some 0, some 1, none] [some 0, some 1] zyw_Tale_read_220 zyw_X_tale zye_X_tale (by decide +kernel) (zt_Tale_read_220 hr5) ⟨⟨_, rfl, fun _ => rfl⟩, ⟨_, rfl, fun _ => rfl⟩, trivial⟩ ⟨rfl, rfl, trivial⟩ rfl rfl rfl rfl rfl rfl rfl) zd76_35 zxt77 rfl (by decide) (by decide) rfl ?_
      refine zv_ist hB zd76_38 rfl rfl rfl ?_
      refine zv_ild hB zd76_39 rfl rfl ?_
      refine zv_zle hB zd76_40 rfl (fun hc6 => ?_) (fun hc6 => ?_)
      · rw [if_neg (Int.not_lt.mpr hc6)] at h
        refine zv_ild hB zd76_61 rfl rfl ?_
        have hw := Option.some.inj h
        subst hw
        exact hret _ _ _ _ _ zd76_62 (by trivial) ⟨rfl, rfl, rfl⟩
      · rw [if_pos hc6] at h
        refine zv_ald hB zd76_43 rfl rfl rfl ?_
        refine zv_getq hB zd76_44 rfl rfl rfl ?_
        refine zv_ast hB zd76_47 rfl rfl rfl rfl ?_
        refine zv_ald hB zd76_48 rfl rfl rfl ?_
        refine zv_ald hB zd76_49 rfl rfl rfl ?_
        refine zv_getq hB zd76_50 rfl rfl rfl ?_
        refine zv_putq hB zd76_53 rfl rfl (by decide) rfl ?_
        refine zv_ald hB zd76_56 rfl rfl rfl ?_
        refine zv_ald hB zd76_57 rfl rfl rfl ?_
        refine zv_putq hB zd76_58 rfl rfl (by decide) rfl ?_
        refine zv_ild hB zd76_61 rfl rfl ?_
        have hw := Option.some.inj h
        subst hw
        exact hret _ _ _ _ _ zd76_62 (by trivial) ⟨rfl, rfl, rfl⟩
    · rw [if_pos hc4] at h
      refine zv_con hB zd76_21 rfl ?_
      have hw := Option.some.inj h
      subst hw
      exact hret _ _ _ _ _ zd76_22 (by trivial) ⟨rfl, rfl, rfl⟩
/-! Sky_standing (I)I -/
-- names: 0 Sky('arg', 0), 1 (0, 24)(0, 1, 1)
-- fields: f0 = 0.hour_; arrays: g0 = 1; out: [('ret', None)]
abbrev zy_Sky_standing : zNL := (2, [(0, 1)], [(0, 1, 6, 0)], [(0, 1, 1, 1)], [(1, 0, 24, 0)])
theorem zyw_Sky_standing : zv_wf zy_Sky_standing = true := by decide +kernel
theorem zye_Sky_standing : zv_ek2 zy_Sky_standing = true := by decide +kernel
def zf_Sky_standing (x1 : Int) (f0 : Int) (g0 : (Int → Int)) : Option (Int) := cond (zi_ix x1 24) (some (zi_rem (zi_w ((g0 x1) + f0)) 24)) none
theorem zd82_0 : decode zxm82.2.1 0 = .ok (.aload_n 0, 1) := by decide +kernel
theorem zd82_1 : decode zxm82.2.1 1 = .ok (.getfield 15, 3) := by decide +kernel
theorem zd82_4 : decode zxm82.2.1 4 = .ok (.iload_n 1, 1) := by decide +kernel
theorem zd82_5 : decode zxm82.2.1 5 = .ok (.iaload, 1) := by decide +kernel
theorem zd82_6 : decode zxm82.2.1 6 = .ok (.aload_n 0, 1) := by decide +kernel
theorem zd82_7 : decode zxm82.2.1 7 = .ok (.getfield 31, 3) := by decide +kernel
theorem zd82_10 : decode zxm82.2.1 10 = .ok (.iadd, 1) := by decide +kernel
theorem zd82_11 : decode zxm82.2.1 11 = .ok (.bipush 24, 2) := by decide +kernel
theorem zd82_13 : decode zxm82.2.1 13 = .ok (.irem, 1) := by decide +kernel
theorem zd82_14 : decode zxm82.2.1 14 = .ok (.ireturn, 1) := by decide +kernel
theorem zt_Sky_standing {x1 : Int} {f0 : Int} {g0 : (Int → Int)} {o : Int} (h : zf_Sky_standing x1 f0 g0 = some o) : zv_Fn z_TB z_cl z_KX zy_Sky_standing zxm82 (0, 0) [.inr 0, .inl x1] [.inl f0] [g0] (some o) [.inl f0] [g0] := zv_meth (K := (z_KF8, z_KC8, z_KL8, z_KT8, [], [], [], none)) (FT := z_FT) (MT := z_MT) (n := 2) zxp82 (z_ks8 _ (fun _ h => List.mem_cons_of_mem _ h) _ _ _ _ (fun j r h _ => by cases h)) (fun _ _ => zs_KX_p) zyw_Sky_standing (fun va F G h => by obtain ⟨rfl, _⟩ := h; rfl) (fun va F G h => by obtain ⟨rfl, _⟩ := h; rfl) rfl fun good va F G hB hret hvret hP => by
  obtain ⟨rfl, rfl, rfl⟩ := hP
  unfold zf_Sky_standing at h
  refine zv_ald hB zd82_0 rfl rfl rfl ?_
  refine zv_getr hB zd82_1 rfl ?_
  refine zv_ild hB zd82_4 rfl rfl ?_
  obtain ⟨c1, h⟩ := zi_if h
  refine zv_iald hB zd82_5 rfl rfl (zi_ix_ok c1).1 (zi_ix_ok c1).2 (fun _ _ => ?_)
  refine zv_ald hB zd82_6 rfl rfl rfl ?_
  refine zv_getf hB zd82_7 rfl rfl (fun _ _ => ?_)
  refine zv_addw hB zd82_10 ?_
  refine zv_con hB zd82_11 rfl ?_
  refine zv_remw hB zd82_13 (by decide) ?_
  have hw := Option.some.inj h
  subst hw
  exact hret _ _ _ _ _ zd82_14 (by trivial) ⟨rfl, rfl, rfl⟩
/-! X_starIs (II)I -/
-- names: 0 StarTales('arg', 0), 1 Sky(0, 0, 0), 2 (0, 24)(1, 1, 1), 3 (0, 24)(1, 1, 2), 4 (0, 24)(1, 1, 3), 5 (0, 24)(1, 1, 4), 6 (0, 24)(1, 1, 5)
-- fields: f0 = 1.told_, f1 = 1.hour_; arrays: g0 = 2, g1 = 3, g2 = 4, g3 = 5, g4 = 6; out: [('ret', None)]
abbrev zy_X_starIs : zNL := (7, [(0, 0), (1, 1)], [(1, 1, 0, 0), (1, 1, 6, 1)], [(0, 0, 0, 1), (1, 1, 1, 2), (1, 1, 2, 3), (1, 1, 3, 4), (1, 1, 4, 5), (1, 1, 5, 6)], [(2, 0, 24, 0), (3, 0, 24, 1), (4, 0, 24, 2), (5, 0, 24, 3), (6, 0, 24, 4)])
theorem zyw_X_starIs : zv_wf zy_X_starIs = true := by decide +kernel
theorem zye_X_starIs : zv_ek2 zy_X_starIs = true := by decide +kernel
def zf_X_starIs (x1 : Int) (x2 : Int) (f0 : Int) (f1 : Int) (g0 : (Int → Int)) (g1 : (Int → Int)) (g2 : (Int → Int)) (g3 : (Int → Int)) (g4 : (Int → Int)) : Option (Int) := (zf_Sky_hasStar x1 f0).bind fun r1 => (if r1 = 0 then (some (-1)) else (if x2 = 0 then (cond (zi_ix x1 24) (some (g0 x1)) none) else (if x2 = 1 then (cond (zi_ix x1 24) (some (g1 x1)) none) else (if x2 = 2 then (cond (zi_ix x1 24) (some (g2 x1)) none) else (if x2 = 3 then ((zf_Sky_standing x1 f1 g0).bind fun r10 => (some r10)) else (if x2 = 4 then (cond (zi_ix x1 24) (some (zi_w ((g3 x1) + 3))) none) else (if x2 = 5 then (cond (zi_ix x1 24) (some (zi_w ((g4 x1) + 3))) none) else (some (-1)))))))))
theorem zd81_0 : decode zxm81.2.1 0 = .ok (.aload_n 0, 1) := by decide +kernel
theorem zd81_1 : decode zxm81.2.1 1 = .ok (.getfield 10, 3) := by decide +kernel
theorem zd81_4 : decode zxm81.2.1 4 = .ok (.iload_n 1, 1) := by decide +kernel
theorem zd81_5 : decode zxm81.2.1 5 = .ok (.invokevirtual 153, 3) := by decide +kernel
theorem zd81_8 : decode zxm81.2.1 8 = .ok (.ifCond .ne 5, 3) := by decide +kernel
theorem zd81_11 : decode zxm81.2.1 11 = .ok (.iconst (-1), 1) := by decide +kernel
theorem zd81_12 : decode zxm81.2.1 12 = .ok (.ireturn, 1) := by decide +kernel
theorem zd81_13 : decode zxm81.2.1 13 = .ok (.iload_n 2, 1) := by decide +kernel
theorem zd81_14 : decode zxm81.2.1 14 = .ok (.tableswitch 101 0 5 #[38, 48, 58, 68, 77, 89], 38) := by decide +kernel
theorem zd81_52 : decode zxm81.2.1 52 = .ok (.aload_n 0, 1) := by decide +kernel
theorem zd81_53 : decode zxm81.2.1 53 = .ok (.getfield 10, 3) := by decide +kernel
theorem zd81_56 : decode zxm81.2.1 56 = .ok (.getfield 138, 3) := by decide +kernel
theorem zd81_59 : decode zxm81.2.1 59 = .ok (.iload_n 1, 1) := by decide +kernel
theorem zd81_60 : decode zxm81.2.1 60 = .ok (.iaload, 1) := by decide +kernel
theorem zd81_61 : decode zxm81.2.1 61 = .ok (.ireturn, 1) := by decide +kernel
theorem zd81_62 : decode zxm81.2.1 62 = .ok (.aload_n 0, 1) := by decide +kernel
theorem zd81_63 : decode zxm81.2.1 63 = .ok (.getfield 10, 3) := by decide +kernel
theorem zd81_66 : decode zxm81.2.1 66 = .ok (.getfield 141, 3) := by decide +kernel
theorem zd81_69 : decode zxm81.2.1 69 = .ok (.iload_n 1, 1) := by decide +kernel
theorem zd81_70 : decode zxm81.2.1 70 = .ok (.iaload, 1) := by decide +kernel
theorem zd81_71 : decode zxm81.2.1 71 = .ok (.ireturn, 1) := by decide +kernel
theorem zd81_72 : decode zxm81.2.1 72 = .ok (.aload_n 0, 1) := by decide +kernel
theorem zd81_73 : decode zxm81.2.1 73 = .ok (.getfield 10, 3) := by decide +kernel
theorem zd81_76 : decode zxm81.2.1 76 = .ok (.getfield 144, 3) := by decide +kernel
theorem zd81_79 : decode zxm81.2.1 79 = .ok (.iload_n 1, 1) := by decide +kernel
theorem zd81_80 : decode zxm81.2.1 80 = .ok (.iaload, 1) := by decide +kernel
theorem zd81_81 : decode zxm81.2.1 81 = .ok (.ireturn, 1) := by decide +kernel
theorem zd81_82 : decode zxm81.2.1 82 = .ok (.aload_n 0, 1) := by decide +kernel
theorem zd81_83 : decode zxm81.2.1 83 = .ok (.getfield 10, 3) := by decide +kernel
theorem zd81_86 : decode zxm81.2.1 86 = .ok (.iload_n 1, 1) := by decide +kernel
theorem zd81_87 : decode zxm81.2.1 87 = .ok (.invokevirtual 207, 3) := by decide +kernel
theorem zd81_90 : decode zxm81.2.1 90 = .ok (.ireturn, 1) := by decide +kernel
theorem zd81_91 : decode zxm81.2.1 91 = .ok (.aload_n 0, 1) := by decide +kernel
theorem zd81_92 : decode zxm81.2.1 92 = .ok (.getfield 10, 3) := by decide +kernel
theorem zd81_95 : decode zxm81.2.1 95 = .ok (.getfield 147, 3) := by decide +kernel
theorem zd81_98 : decode zxm81.2.1 98 = .ok (.iload_n 1, 1) := by decide +kernel
theorem zd81_99 : decode zxm81.2.1 99 = .ok (.iaload, 1) := by decide +kernel
theorem zd81_100 : decode zxm81.2.1 100 = .ok (.iconst 3, 1) := by decide +kernel
theorem zd81_101 : decode zxm81.2.1 101 = .ok (.iadd, 1) := by decide +kernel
theorem zd81_102 : decode zxm81.2.1 102 = .ok (.ireturn, 1) := by decide +kernel
theorem zd81_103 : decode zxm81.2.1 103 = .ok (.aload_n 0, 1) := by decide +kernel
theorem zd81_104 : decode zxm81.2.1 104 = .ok (.getfield 10, 3) := by decide +kernel
theorem zd81_107 : decode zxm81.2.1 107 = .ok (.getfield 150, 3) := by decide +kernel
theorem zd81_110 : decode zxm81.2.1 110 = .ok (.iload_n 1, 1) := by decide +kernel
theorem zd81_111 : decode zxm81.2.1 111 = .ok (.iaload, 1) := by decide +kernel
theorem zd81_112 : decode zxm81.2.1 112 = .ok (.iconst 3, 1) := by decide +kernel
theorem zd81_113 : decode zxm81.2.1 113 = .ok (.iadd, 1) := by decide +kernel
theorem zd81_114 : decode zxm81.2.1 114 = .ok (.ireturn, 1) := by decide +kernel
theorem zd81_115 : decode zxm81.2.1 115 = .ok (.iconst (-1), 1) := by decide +kernel
theorem zd81_116 : decode zxm81.2.1 116 = .ok (.ireturn, 1) := by decide +kernel
theorem zt_X_starIs {x1 : Int} {x2 : Int} {f0 : Int} {f1 : Int} {g0 : (Int → Int)} {g1 : (Int → Int)} {g2 : (Int → Int)} {g3 : (Int → Int)} {g4 : (Int → Int)} {o : Int} (h : zf_X_starIs x1 x2 f0 f1 g0 g1 g2 g3 g4 = some o) : zv_Fn z_TB z_cl z_KX zy_X_starIs zxm81 (1, 60) [.inr 0, .inl x1, .inl x2] [.inl f0, .inl f1] [g0, g1, g2, g3, g4] (some o) [.inl f0, .inl f1] [g0, g1, g2, g3, g4] := zv_meth (K := (z_KF0, z_KC0, z_KL0, z_KT0, [], [], [], none)) (FT := z_FT) (MT := z_MT) (n := 3) zxp81 (z_ks0 _ (fun _ h => List.mem_cons_of_mem _ h) _ _ _ _ (fun j r h _ => by cases h)) (fun _ _ => zs_KX_p) zyw_X_starIs (fun va F G h => by obtain ⟨rfl, _⟩ := h; rfl) (fun va F G h => by obtain ⟨rfl, _⟩ := h; rfl) rfl fun good va F G hB hret hvret hP => by
  obtain ⟨rfl, rfl, rfl⟩ := hP
  unfold zf_X_starIs at h
  refine zv_ald hB zd81_0 rfl rfl rfl ?_
  refine zv_getr hB zd81_1 rfl ?_
  refine zv_ild hB zd81_4 rfl rfl ?_
  obtain ⟨r1, hr1, h⟩ := zi_bind h
  refine zv_cv hB (zv_emq (va2 := [.inr 1, .inl x1]) (F := [.inl f0, .inl f1]) (F' := [.inl f0, .inl f1]) (G := [g0, g1, g2, g3, g4]) (G' := [g0, g1, g2, g3, g4]) (ρ := [1]) (φ := [0]) (ψ := []) [some 0, none] [none, none, none, none, none] zyw_Sky_hasStar zyw_X_starIs zye_X_starIs (by decide +kernel) (zt_Sky_hasStar hr1) ⟨⟨_, rfl, fun _ => rfl⟩, trivial⟩ trivial rfl rfl rfl rfl rfl rfl rfl) zd81_5 zxt18 rfl (by decide) (by decide) rfl ?_
  refine zv_zne hB zd81_8 rfl (fun hc2 => ?_) (fun hc2 => ?_)
  · rw [if_neg hc2] at h
    refine zv_ild hB zd81_13 rfl rfl ?_
    refine zv_tsw hB zd81_14 rfl ?_
    refine ⟨fun hc3 => ⟨_, rfl, ?_⟩, fun hc3 => ?_⟩
    · replace hc3 : x2 = 0 := hc3
      rw [if_pos hc3] at h
      refine zv_ald hB zd81_52 rfl rfl rfl ?_
      refine zv_getr hB zd81_53 rfl ?_
      refine zv_getr hB zd81_56 rfl ?_
      refine zv_ild hB zd81_59 rfl rfl ?_
      obtain ⟨c4, h⟩ := zi_if h
      refine zv_iald hB zd81_60 rfl rfl (zi_ix_ok c4).1 (zi_ix_ok c4).2 (fun _ _ => ?_)
      have hw := Option.some.inj h
      subst hw
      exact hret _ _ _ _ _ zd81_61 (by trivial) ⟨rfl, rfl, rfl⟩
    replace hc3 : x2 ≠ 0 := hc3
    rw [if_neg hc3] at h
    refine ⟨fun hc5 => ⟨_, rfl, ?_⟩, fun hc5 => ?_⟩
    · replace hc5 : x2 = 1 := hc5
      rw [if_pos hc5] at h
      refine zv_ald hB zd81_62 rfl rfl rfl ?_
      refine zv_getr hB zd81_63 rfl ?_
      refine zv_getr hB zd81_66 rfl ?_
      refine zv_ild hB zd81_69 rfl rfl ?_
      obtain ⟨c6, h⟩ := zi_if h
      refine zv_iald hB zd81_70 rfl rfl (zi_ix_ok c6).1 (zi_ix_ok c6).2 (fun _ _ => ?_)
      have hw := Option.some.inj h
      subst hw
      exact hret _ _ _ _ _ zd81_71 (by trivial) ⟨rfl, rfl, rfl⟩
    replace hc5 : x2 ≠ 1 := hc5
    rw [if_neg hc5] at h
    refine ⟨fun hc7 => ⟨_, rfl, ?_⟩, fun hc7 => ?_⟩
    · replace hc7 : x2 = 2 := hc7
      rw [if_pos hc7] at h
      refine zv_ald hB zd81_72 rfl rfl rfl ?_
      refine zv_getr hB zd81_73 rfl ?_
      refine zv_getr hB zd81_76 rfl ?_
      refine zv_ild hB zd81_79 rfl rfl ?_
      obtain ⟨c8, h⟩ := zi_if h
      refine zv_iald hB zd81_80 rfl rfl (zi_ix_ok c8).1 (zi_ix_ok c8).2 (fun _ _ => ?_)
      have hw := Option.some.inj h
      subst hw
      exact hret _ _ _ _ _ zd81_81 (by trivial) ⟨rfl, rfl, rfl⟩
    replace hc7 : x2 ≠ 2 := hc7
    rw [if_neg hc7] at h
    refine ⟨fun hc9 => ⟨_, rfl, ?_⟩, fun hc9 => ?_⟩
    · replace hc9 : x2 = 3 := hc9
      rw [if_pos hc9] at h
      refine zv_ald hB zd81_82 rfl rfl rfl ?_
      refine zv_getr hB zd81_83 rfl ?_
      refine zv_ild hB zd81_86 rfl rfl ?_
      obtain ⟨r10, hr10, h⟩ := zi_bind h
      refine zv_cv hB (zv_emq (va2 := [.inr 1, .inl x1]) (F := [.inl f0, .inl f1]) (F' := [.inl f0, .inl f1]) (G := [g0, g1, g2, g3, g4]) (G' := [g0, g1, g2, g3, g4]) (ρ := [1, 2]) (φ := [1]) (ψ := [0]) [none, some 0] [some 0, none, none, none, none] zyw_Sky_standing zyw_X_starIs zye_X_starIs (by decide +kernel) (zt_Sky_standing hr10) ⟨⟨_, rfl, fun _ => rfl⟩, trivial⟩ ⟨rfl, trivial⟩ rfl rfl rfl rfl rfl rfl rfl) zd81_87 zxt82 rfl (by decide) (by decide) rfl ?_
      have hw := Option.some.inj h
      subst hw
      exact hret _ _ _ _ _ zd81_90 (by trivial) ⟨rfl, rfl, rfl⟩
    replace hc9 : x2 ≠ 3 := hc9
    rw [if_neg hc9] at h
    refine ⟨fun hc11 => ⟨_, rfl, ?_⟩, fun hc11 => ?_⟩
    · replace hc11 : x2 = 4 := hc11
      rw [if_pos hc11] at h
      refine zv_ald hB zd81_91 rfl rfl rfl ?_
      refine zv_getr hB zd81_92 rfl ?_
      refine zv_getr hB zd81_95 rfl ?_
      refine zv_ild hB zd81_98 rfl rfl ?_
      obtain ⟨c12, h⟩ := zi_if h
      refine zv_iald hB zd81_99 rfl rfl (zi_ix_ok c12).1 (zi_ix_ok c12).2 (fun _ _ => ?_)
      refine zv_con hB zd81_100 rfl ?_
      refine zv_addw hB zd81_101 ?_
      have hw := Option.some.inj h
      subst hw
      exact hret _ _ _ _ _ zd81_102 (by trivial) ⟨rfl, rfl, rfl⟩
    replace hc11 : x2 ≠ 4 := hc11
    rw [if_neg hc11] at h
    refine ⟨fun hc13 => ⟨_, rfl, ?_⟩, fun hc13 => ?_⟩
    · replace hc13 : x2 = 5 := hc13
      rw [if_pos hc13] at h
      refine zv_ald hB zd81_103 rfl rfl rfl ?_
      refine zv_getr hB zd81_104 rfl ?_
      refine zv_getr hB zd81_107 rfl ?_
      refine zv_ild hB zd81_110 rfl rfl ?_
      obtain ⟨c14, h⟩ := zi_if h
      refine zv_iald hB zd81_111 rfl rfl (zi_ix_ok c14).1 (zi_ix_ok c14).2 (fun _ _ => ?_)
      refine zv_con hB zd81_112 rfl ?_
      refine zv_addw hB zd81_113 ?_
      have hw := Option.some.inj h
      subst hw
      exact hret _ _ _ _ _ zd81_114 (by trivial) ⟨rfl, rfl, rfl⟩
    replace hc13 : x2 ≠ 5 := hc13
    rw [if_neg hc13] at h
    refine ⟨_, rfl, ?_⟩
    refine zv_con hB zd81_115 rfl ?_
    have hw := Option.some.inj h
    subst hw
    exact hret _ _ _ _ _ zd81_116 (by trivial) ⟨rfl, rfl, rfl⟩
  · rw [if_pos hc2] at h
    refine zv_con hB zd81_11 rfl ?_
    have hw := Option.some.inj h
    subst hw
    exact hret _ _ _ _ _ zd81_12 (by trivial) ⟨rfl, rfl, rfl⟩
/-! Arrays_fill_24 ([II)V -/
-- names: 0 (0, 24)('arg', 0)
-- fields: ; arrays: g0 = 0; out: [('g', 0)]
abbrev zy_Arrays_fill_24 : zNL := (1, [], [], [], [(0, 0, 24, 0)])
theorem zyw_Arrays_fill_24 : zv_wf zy_Arrays_fill_24 = true := by decide +kernel
theorem zye_Arrays_fill_24 : zv_ek2 zy_Arrays_fill_24 = true := by decide +kernel
def zf_Arrays_fill_24_l0_b (x1 : Int) (x3 : Int) (rec : Int → (Int → Int) → Option ((Int → Int))) (x2 : Int) (g0 : (Int → Int)) : Option ((Int → Int)) := if x2 < x3 then (cond (zi_ix x2 24) (rec (zi_w (x2 + 1)) (zv_up g0 x2 x1)) none) else (some g0)
def zf_Arrays_fill_24_l0 (x1 : Int) (x3 : Int) : Nat → Int → (Int → Int) → Option ((Int → Int))
  | 0, _, _ => none
  | n + 1, x2, g0 => zf_Arrays_fill_24_l0_b x1 x3 (zf_Arrays_fill_24_l0 x1 x3 n) x2 g0
def zf_Arrays_fill_24 (x1 : Int) (g0 : (Int → Int)) : Option ((Int → Int)) := (zf_Arrays_fill_24_l0 x1 24 zi_fu 0 g0).bind fun q3 => (some q3)
theorem zt_Arrays_fill_24 {x1 : Int} {g0 : (Int → Int)} {o : (Int → Int)} (h : zf_Arrays_fill_24 x1 g0 = some o) : zv_Fn z_TB z_cl z_KX zy_Arrays_fill_24 zxm78 (0, 0) [.inr 0, .inl x1] [] [g0] none [] [o] := zv_meth (K := (z_KF20, z_KC20, z_KL20, z_KT20, [], [], [], none)) (FT := z_FT) (MT := z_MT) (n := 2) zxp78 (z_ks20 _ (fun _ h => List.mem_cons_of_mem _ h) _ _ _ _ (fun j r h _ => by cases h)) (fun _ _ => zs_KX_p) zyw_Arrays_fill_24 (fun va F G h => by obtain ⟨rfl, _⟩ := h; rfl) (fun va F G h => by obtain ⟨rfl, _⟩ := h; rfl) rfl fun good va F G hB hret hvret hP => by
  obtain ⟨rfl, rfl, rfl⟩ := hP
  have l0 : ∀ (n : Nat) (x1 : Int) (x2 : Int) (x3 : Int) (g0 : (Int → Int)) (q : (Int → Int)), zf_Arrays_fill_24_l0 x1 x3 n x2 g0 = some q → (good 20 [.inr 1000, .inr 1000, .inr 1000, .inr 1000] [] [] [q]) → good 5 [.inr 0, .inl x1, .inl x2, .inl x3] [] [] [g0] := by
    intro n
    induction n with
    | zero => intro x1 x2 x3 g0 q h; exact absurd (show none = some q from h) (fun h => by cases h)
    | succ n ih =>
      intro x1 x2 x3 g0 q h hK
      replace h : zf_Arrays_fill_24_l0_b x1 x3 (zf_Arrays_fill_24_l0 x1 x3 n) x2 g0 = some q := h
      unfold zf_Arrays_fill_24_l0_b at h
      refine zv_ild hB zd78_5 rfl rfl ?_
      refine zv_ild hB zd78_6 rfl rfl ?_
      refine zv_cge hB zd78_7 rfl (fun hc1 => ?_) (fun hc1 => ?_)
      · rw [if_neg (Int.not_lt.mpr hc1)] at h
        have hq := Option.some.inj h
        subst hq
        refine zv_wk hB (L' := [.inr 1000, .inr 1000, .inr 1000, .inr 1000]) (F' := []) ⟨fun (h : zv_is (.inr 1000)) => (Nat.lt_irrefl 1000 h).elim, fun (h : zv_is (.inr 1000)) => (Nat.lt_irrefl 1000 h).elim, fun (h : zv_is (.inr 1000)) => (Nat.lt_irrefl 1000 h).elim, fun (h : zv_is (.inr 1000)) => (Nat.lt_irrefl 1000 h).elim, trivial⟩ trivial ?_
        exact hK
      · rw [if_pos hc1] at h
        refine zv_ald hB zd78_10 rfl rfl rfl ?_
        refine zv_ild hB zd78_11 rfl rfl ?_
        refine zv_ild hB zd78_12 rfl rfl ?_
        obtain ⟨c2, h⟩ := zi_if h
        refine zv_iast hB zd78_13 rfl rfl (zi_ix_ok c2).1 (zi_ix_ok c2).2 ?_
        refine zv_iincw hB zd78_14 rfl rfl ?_
        refine zv_goto hB zd78_17 rfl ?_
        exact ih _ _ _ _ q h hK
  unfold zf_Arrays_fill_24 at h
  refine zv_con hB zd78_0 rfl ?_
  refine zv_ist hB zd78_1 rfl rfl rfl ?_
  refine zv_ald hB zd78_2 rfl rfl rfl ?_
  refine zv_alen (v := 24) hB zd78_3 rfl rfl rfl rfl ?_
  refine zv_ist hB zd78_4 rfl rfl rfl ?_
  obtain ⟨q3, hq3, h⟩ := zi_bind h
  refine l0 _ _ _ _ _ q3 hq3 ?_
  show good 20 [.inr 1000, .inr 1000, .inr 1000, .inr 1000] [] [] [q3]
  have hw := Option.some.inj h
  subst hw
  exact hvret _ _ _ _ zd78_20 trivial ⟨rfl, rfl, rfl⟩
/-! View_open (LStarTales$Sky;LStarTales$Law;)V -/
-- names: 0 View('arg', 0), 1 Sky('arg', 1), 2 Law('arg', 2), 3 (0, 24)(0, 7, 8)
-- fields: f0 = 0.sky_, f1 = 0.law_, f2 = 0.starsAsked_; arrays: g0 = 3; out: [('f', 2), ('g', 0)]
abbrev zy_View_open : zNL := (4, [(0, 7), (1, 1), (2, 4)], [(0, 7, 0, 0), (0, 7, 1, 1), (0, 7, 6, 2)], [(0, 7, 8, 3)], [(3, 0, 24, 0)])
theorem zyw_View_open : zv_wf zy_View_open = true := by decide +kernel
theorem zye_View_open : zv_ek2 zy_View_open = true := by decide +kernel
def zf_View_open (f2 : Int) (g0 : (Int → Int)) : Option (Int × (Int → Int)) := (zf_Arrays_fill_24 0 g0).bind fun r1 => (some (0, r1))
theorem zd84_0 : decode zxm84.2.1 0 = .ok (.aload_n 0, 1) := by decide +kernel
theorem zd84_1 : decode zxm84.2.1 1 = .ok (.aload_n 1, 1) := by decide +kernel
theorem zd84_2 : decode zxm84.2.1 2 = .ok (.putfield 37, 3) := by decide +kernel
theorem zd84_5 : decode zxm84.2.1 5 = .ok (.aload_n 0, 1) := by decide +kernel
theorem zd84_6 : decode zxm84.2.1 6 = .ok (.aload_n 2, 1) := by decide +kernel
theorem zd84_7 : decode zxm84.2.1 7 = .ok (.putfield 41, 3) := by decide +kernel
theorem zd84_10 : decode zxm84.2.1 10 = .ok (.aload_n 0, 1) := by decide +kernel
theorem zd84_11 : decode zxm84.2.1 11 = .ok (.iconst 0, 1) := by decide +kernel
theorem zd84_12 : decode zxm84.2.1 12 = .ok (.putfield 25, 3) := by decide +kernel
theorem zd84_15 : decode zxm84.2.1 15 = .ok (.aload_n 0, 1) := by decide +kernel
theorem zd84_16 : decode zxm84.2.1 16 = .ok (.getfield 31, 3) := by decide +kernel
theorem zd84_19 : decode zxm84.2.1 19 = .ok (.iconst 0, 1) := by decide +kernel
theorem zd84_20 : decode zxm84.2.1 20 = .ok (.invokestatic 45, 3) := by decide +kernel
theorem zd84_23 : decode zxm84.2.1 23 = .ok (.return_, 1) := by decide +kernel
theorem zt_View_open {f2 : Int} {g0 : (Int → Int)} {o : Int × (Int → Int)} (h : zf_View_open f2 g0 = some o) : zv_Fn z_TB z_cl z_KX zy_View_open zxm84 (1, 60) [.inr 0, .inr 1, .inr 2] [.inr 1000, .inr 1000, .inl f2] [g0] none [.inr 1, .inr 2, .inl o.1] [o.2] := zv_meth (K := (z_KF11, z_KC11, z_KL11, z_KT11, [], [], [], none)) (FT := z_FT) (MT := z_MT) (n := 3) zxp84 (z_ks11 _ (fun _ h => List.mem_cons_of_mem _ h) _ _ _ _ (fun j r h _ => by cases h)) (fun _ _ => zs_KX_p) zyw_View_open (fun va F G h => by obtain ⟨rfl, _⟩ := h; rfl) (fun va F G h => by obtain ⟨rfl, _⟩ := h; rfl) rfl fun good va F G hB hret hvret hP => by
  obtain ⟨rfl, rfl, rfl⟩ := hP
  unfold zf_View_open at h
  refine zv_ald hB zd84_0 rfl rfl rfl ?_
  refine zv_ald hB zd84_1 rfl rfl rfl ?_
  refine zv_putq hB zd84_2 rfl rfl (by decide) rfl ?_
  refine zv_ald hB zd84_5 rfl rfl rfl ?_
  refine zv_ald hB zd84_6 rfl rfl rfl ?_
  refine zv_putq hB zd84_7 rfl rfl (by decide) rfl ?_
  refine zv_ald hB zd84_10 rfl rfl rfl ?_
  refine zv_con hB zd84_11 rfl ?_
  refine zv_putf hB zd84_12 rfl rfl (fun h => by cases h) rfl ?_
  refine zv_ald hB zd84_15 rfl rfl rfl ?_
  refine zv_getr hB zd84_16 rfl ?_
  refine zv_con hB zd84_19 rfl ?_
  obtain ⟨r1, hr1, h⟩ := zi_bind h
  refine zv_cs hB (zv_emq (va2 := [.inr 3, .inl 0]) (F := [.inr 1, .inr 2, .inl 0]) (F' := [.inr 1, .inr 2, .inl 0]) (G := [g0]) (G' := [r1]) (ρ := [3]) (φ := []) (ψ := [0]) [none, none, none] [some 0] zyw_Arrays_fill_24 zyw_View_open zye_View_open (by decide +kernel) (zt_Arrays_fill_24 hr1) trivial ⟨rfl, trivial⟩ rfl rfl rfl rfl rfl rfl rfl) zd84_20 zxt78 rfl (by decide) (by decide) rfl ?_
  have hw := Option.some.inj h
  subst hw
  exact hvret _ _ _ _ zd84_23 trivial ⟨rfl, rfl, rfl⟩
/-! Arrays_fill_13 ([II)V -/
-- names: 0 (0, 13)('arg', 0)
-- fields: ; arrays: g0 = 0; out: [('g', 0)]
abbrev zy_Arrays_fill_13 : zNL := (1, [], [], [], [(0, 0, 13, 0)])
theorem zyw_Arrays_fill_13 : zv_wf zy_Arrays_fill_13 = true := by decide +kernel
theorem zye_Arrays_fill_13 : zv_ek2 zy_Arrays_fill_13 = true := by decide +kernel
def zf_Arrays_fill_13_l0_b (x1 : Int) (x3 : Int) (rec : Int → (Int → Int) → Option ((Int → Int))) (x2 : Int) (g0 : (Int → Int)) : Option ((Int → Int)) := if x2 < x3 then (cond (zi_ix x2 13) (rec (zi_w (x2 + 1)) (zv_up g0 x2 x1)) none) else (some g0)
def zf_Arrays_fill_13_l0 (x1 : Int) (x3 : Int) : Nat → Int → (Int → Int) → Option ((Int → Int))
  | 0, _, _ => none
  | n + 1, x2, g0 => zf_Arrays_fill_13_l0_b x1 x3 (zf_Arrays_fill_13_l0 x1 x3 n) x2 g0
def zf_Arrays_fill_13 (x1 : Int) (g0 : (Int → Int)) : Option ((Int → Int)) := (zf_Arrays_fill_13_l0 x1 13 zi_fu 0 g0).bind fun q3 => (some q3)
theorem zt_Arrays_fill_13 {x1 : Int} {g0 : (Int → Int)} {o : (Int → Int)} (h : zf_Arrays_fill_13 x1 g0 = some o) : zv_Fn z_TB z_cl z_KX zy_Arrays_fill_13 zxm78 (0, 0) [.inr 0, .inl x1] [] [g0] none [] [o] := zv_meth (K := (z_KF20, z_KC20, z_KL20, z_KT20, [], [], [], none)) (FT := z_FT) (MT := z_MT) (n := 2) zxp78 (z_ks20 _ (fun _ h => List.mem_cons_of_mem _ h) _ _ _ _ (fun j r h _ => by cases h)) (fun _ _ => zs_KX_p) zyw_Arrays_fill_13 (fun va F G h => by obtain ⟨rfl, _⟩ := h; rfl) (fun va F G h => by obtain ⟨rfl, _⟩ := h; rfl) rfl fun good va F G hB hret hvret hP => by
  obtain ⟨rfl, rfl, rfl⟩ := hP
  have l0 : ∀ (n : Nat) (x1 : Int) (x2 : Int) (x3 : Int) (g0 : (Int → Int)) (q : (Int → Int)), zf_Arrays_fill_13_l0 x1 x3 n x2 g0 = some q → (good 20 [.inr 1000, .inr 1000, .inr 1000, .inr 1000] [] [] [q]) → good 5 [.inr 0, .inl x1, .inl x2, .inl x3] [] [] [g0] := by
    intro n
    induction n with
    | zero => intro x1 x2 x3 g0 q h; exact absurd (show none = some q from h) (fun h => by cases h)
    | succ n ih =>
      intro x1 x2 x3 g0 q h hK
      replace h : zf_Arrays_fill_13_l0_b x1 x3 (zf_Arrays_fill_13_l0 x1 x3 n) x2 g0 = some q := h
      unfold zf_Arrays_fill_13_l0_b at h
      refine zv_ild hB zd78_5 rfl rfl ?_
      refine zv_ild hB zd78_6 rfl rfl ?_
      refine zv_cge hB zd78_7 rfl (fun hc1 => ?_) (fun hc1 => ?_)
      · rw [if_neg (Int.not_lt.mpr hc1)] at h
        have hq := Option.some.inj h
        subst hq
        refine zv_wk hB (L' := [.inr 1000, .inr 1000, .inr 1000, .inr 1000]) (F' := []) ⟨fun (h : zv_is (.inr 1000)) => (Nat.lt_irrefl 1000 h).elim, fun (h : zv_is (.inr 1000)) => (Nat.lt_irrefl 1000 h).elim, fun (h : zv_is (.inr 1000)) => (Nat.lt_irrefl 1000 h).elim, fun (h : zv_is (.inr 1000)) => (Nat.lt_irrefl 1000 h).elim, trivial⟩ trivial ?_
        exact hK
      · rw [if_pos hc1] at h
        refine zv_ald hB zd78_10 rfl rfl rfl ?_
        refine zv_ild hB zd78_11 rfl rfl ?_
        refine zv_ild hB zd78_12 rfl rfl ?_
        obtain ⟨c2, h⟩ := zi_if h
        refine zv_iast hB zd78_13 rfl rfl (zi_ix_ok c2).1 (zi_ix_ok c2).2 ?_
        refine zv_iincw hB zd78_14 rfl rfl ?_
        refine zv_goto hB zd78_17 rfl ?_
        exact ih _ _ _ _ q h hK
  unfold zf_Arrays_fill_13 at h
  refine zv_con hB zd78_0 rfl ?_
  refine zv_ist hB zd78_1 rfl rfl rfl ?_
  refine zv_ald hB zd78_2 rfl rfl rfl ?_
  refine zv_alen (v := 13) hB zd78_3 rfl rfl rfl rfl ?_
  refine zv_ist hB zd78_4 rfl rfl rfl ?_
  obtain ⟨q3, hq3, h⟩ := zi_bind h
  refine l0 _ _ _ _ _ q3 hq3 ?_
  show good 20 [.inr 1000, .inr 1000, .inr 1000, .inr 1000] [] [] [q3]
  have hw := Option.some.inj h
  subst hw
  exact hvret _ _ _ _ zd78_20 trivial ⟨rfl, rfl, rfl⟩
/-! Law_forgetLetters ()V -/
-- names: 0 Law('arg', 0), 1 (0, 13)(0, 4, 12)
-- fields: ; arrays: g0 = 1; out: [('g', 0)]
abbrev zy_Law_forgetLetters : zNL := (2, [(0, 4)], [], [(0, 4, 12, 1)], [(1, 0, 13, 0)])
theorem zyw_Law_forgetLetters : zv_wf zy_Law_forgetLetters = true := by decide +kernel
theorem zye_Law_forgetLetters : zv_ek2 zy_Law_forgetLetters = true := by decide +kernel
def zf_Law_forgetLetters (g0 : (Int → Int)) : Option ((Int → Int)) := (zf_Arrays_fill_13 0 g0).bind fun r1 => (some r1)
theorem zd87_0 : decode zxm87.2.1 0 = .ok (.aload_n 0, 1) := by decide +kernel
theorem zd87_1 : decode zxm87.2.1 1 = .ok (.getfield 56, 3) := by decide +kernel
theorem zd87_4 : decode zxm87.2.1 4 = .ok (.iconst 0, 1) := by decide +kernel
theorem zd87_5 : decode zxm87.2.1 5 = .ok (.invokestatic 69, 3) := by decide +kernel
theorem zd87_8 : decode zxm87.2.1 8 = .ok (.return_, 1) := by decide +kernel
theorem zt_Law_forgetLetters {g0 : (Int → Int)} {o : (Int → Int)} (h : zf_Law_forgetLetters g0 = some o) : zv_Fn z_TB z_cl z_KX zy_Law_forgetLetters zxm87 (1, 60) [.inr 0] [] [g0] none [] [o] := zv_meth (K := (z_KF2, z_KC2, z_KL2, z_KT2, [], [], [], none)) (FT := z_FT) (MT := z_MT) (n := 1) zxp87 (z_ks2 _ (fun _ h => List.mem_cons_of_mem _ h) _ _ _ _ (fun j r h _ => by cases h)) (fun _ _ => zs_KX_p) zyw_Law_forgetLetters (fun va F G h => by obtain ⟨rfl, _⟩ := h; rfl) (fun va F G h => by obtain ⟨rfl, _⟩ := h; rfl) rfl fun good va F G hB hret hvret hP => by
  obtain ⟨rfl, rfl, rfl⟩ := hP
  unfold zf_Law_forgetLetters at h
  refine zv_ald hB zd87_0 rfl rfl rfl ?_
  refine zv_getr hB zd87_1 rfl ?_
  refine zv_con hB zd87_4 rfl ?_
  obtain ⟨r1, hr1, h⟩ := zi_bind h
  refine zv_cs hB (zv_emq (va2 := [.inr 1, .inl 0]) (F := []) (F' := []) (G := [g0]) (G' := [r1]) (ρ := [1]) (φ := []) (ψ := [0]) [] [some 0] zyw_Arrays_fill_13 zyw_Law_forgetLetters zye_Law_forgetLetters (by decide +kernel) (zt_Arrays_fill_13 hr1) trivial ⟨rfl, trivial⟩ rfl rfl rfl rfl rfl rfl rfl) zd87_5 zxt78 rfl (by decide) (by decide) rfl ?_
  have hw := Option.some.inj h
  subst hw
  exact hvret _ _ _ _ zd87_8 trivial ⟨rfl, rfl, rfl⟩
/-! Law_setTime (LStarTales$Sky;)V -/
-- names: 0 Law('arg', 0), 1 Sky('arg', 1), 2 (0, 13)(0, 4, 12)
-- fields: f0 = 1.hour_, f1 = 1.night_; arrays: g0 = 2; out: [('g', 0)]
abbrev zy_Law_setTime : zNL := (3, [(0, 4), (1, 1)], [(1, 1, 6, 0), (1, 1, 7, 1)], [(0, 4, 12, 2)], [(2, 0, 13, 0)])
theorem zyw_Law_setTime : zv_wf zy_Law_setTime = true := by decide +kernel
theorem zye_Law_setTime : zv_ek2 zy_Law_setTime = true := by decide +kernel
def zf_Law_setTime (f0 : Int) (f1 : Int) (g0 : (Int → Int)) : Option ((Int → Int)) := some (zv_up (zv_up g0 0 f0) 1 f1)
theorem zd88_0 : decode zxm88.2.1 0 = .ok (.aload_n 0, 1) := by decide +kernel
theorem zd88_1 : decode zxm88.2.1 1 = .ok (.getfield 56, 3) := by decide +kernel
theorem zd88_4 : decode zxm88.2.1 4 = .ok (.iconst 0, 1) := by decide +kernel
theorem zd88_5 : decode zxm88.2.1 5 = .ok (.aload_n 1, 1) := by decide +kernel
theorem zd88_6 : decode zxm88.2.1 6 = .ok (.getfield 75, 3) := by decide +kernel
theorem zd88_9 : decode zxm88.2.1 9 = .ok (.iastore, 1) := by decide +kernel
theorem zd88_10 : decode zxm88.2.1 10 = .ok (.aload_n 0, 1) := by decide +kernel
theorem zd88_11 : decode zxm88.2.1 11 = .ok (.getfield 56, 3) := by decide +kernel
theorem zd88_14 : decode zxm88.2.1 14 = .ok (.iconst 1, 1) := by decide +kernel
theorem zd88_15 : decode zxm88.2.1 15 = .ok (.aload_n 1, 1) := by decide +kernel
theorem zd88_16 : decode zxm88.2.1 16 = .ok (.getfield 80, 3) := by decide +kernel
theorem zd88_19 : decode zxm88.2.1 19 = .ok (.iastore, 1) := by decide +kernel
theorem zd88_20 : decode zxm88.2.1 20 = .ok (.return_, 1) := by decide +kernel
theorem zt_Law_setTime {f0 : Int} {f1 : Int} {g0 : (Int → Int)} {o : (Int → Int)} (h : zf_Law_setTime f0 f1 g0 = some o) : zv_Fn z_TB z_cl z_KX zy_Law_setTime zxm88 (0, 0) [.inr 0, .inr 1] [.inl f0, .inl f1] [g0] none [.inl f0, .inl f1] [o] := zv_meth (K := (z_KF2, z_KC2, z_KL2, z_KT2, [], [], [], none)) (FT := z_FT) (MT := z_MT) (n := 2) zxp88 (z_ks2 _ (fun _ h => List.mem_cons_of_mem _ h) _ _ _ _ (fun j r h _ => by cases h)) (fun _ _ => zs_KX_p) zyw_Law_setTime (fun va F G h => by obtain ⟨rfl, _⟩ := h; rfl) (fun va F G h => by obtain ⟨rfl, _⟩ := h; rfl) rfl fun good va F G hB hret hvret hP => by
  obtain ⟨rfl, rfl, rfl⟩ := hP
  unfold zf_Law_setTime at h
  refine zv_ald hB zd88_0 rfl rfl rfl ?_
  refine zv_getr hB zd88_1 rfl ?_
  refine zv_con hB zd88_4 rfl ?_
  refine zv_ald hB zd88_5 rfl rfl rfl ?_
  refine zv_getf hB zd88_6 rfl rfl (fun _ _ => ?_)
  refine zv_iast hB zd88_9 rfl rfl (by decide) (by decide) ?_
  refine zv_ald hB zd88_10 rfl rfl rfl ?_
  refine zv_getr hB zd88_11 rfl ?_
  refine zv_con hB zd88_14 rfl ?_
  refine zv_ald hB zd88_15 rfl rfl rfl ?_
  refine zv_getf hB zd88_16 rfl rfl (fun _ _ => ?_)
  refine zv_iast hB zd88_19 rfl rfl (by decide) (by decide) ?_
  have hw := Option.some.inj h
  subst hw
  exact hvret _ _ _ _ zd88_20 trivial ⟨rfl, rfl, rfl⟩
end
section
/-! Methods as functions, and that they do what these do. -/
/-! View_goTo (II)V -/
-- names: 0 View('arg', 0), 1 Law(0, 7, 1), 2 (0, 13)(1, 4, 12), 3 Sky(0, 7, 0)
-- fields: f0 = 0.x_, f1 = 0.y_, f2 = 0.law_, f3 = 0.sky_, f4 = 3.hour_, f5 = 3.night_; arrays: g0 = 2; out: [('f', 0), ('f', 1), ('g', 0)]
abbrev zy_View_goTo : zNL := (4, [(0, 7), (1, 4), (3, 1)], [(0, 7, 2, 0), (0, 7, 3, 1), (0, 7, 1, 2), (0, 7, 0, 3), (3, 1, 6, 4), (3, 1, 7, 5)], [(1, 4, 12, 2)], [(2, 0, 13, 0)])
theorem zyw_View_goTo : zv_wf zy_View_goTo = true := by decide +kernel
theorem zye_View_goTo : zv_ek2 zy_View_goTo = true := by decide +kernel
def zf_View_goTo (x1 : Int) (x2 : Int) (f0 : Int) (f1 : Int) (f4 : Int) (f5 : Int) (g0 : (Int → Int)) : Option (Int × Int × (Int → Int)) := (zf_Law_forgetLetters g0).bind fun r1 => ((zf_Law_setTime f4 f5 r1).bind fun r2 => (some (x1, x2, (zv_up (zv_up r2 10 x1) 11 x2))))
theorem zd86_0 : decode zxm86.2.1 0 = .ok (.aload_n 0, 1) := by decide +kernel
theorem zd86_1 : decode zxm86.2.1 1 = .ok (.iload_n 1, 1) := by decide +kernel
theorem zd86_2 : decode zxm86.2.1 2 = .ok (.putfield 9, 3) := by decide +kernel
theorem zd86_5 : decode zxm86.2.1 5 = .ok (.aload_n 0, 1) := by decide +kernel
theorem zd86_6 : decode zxm86.2.1 6 = .ok (.iload_n 2, 1) := by decide +kernel
theorem zd86_7 : decode zxm86.2.1 7 = .ok (.putfield 15, 3) := by decide +kernel
theorem zd86_10 : decode zxm86.2.1 10 = .ok (.aload_n 0, 1) := by decide +kernel
theorem zd86_11 : decode zxm86.2.1 11 = .ok (.getfield 41, 3) := by decide +kernel
theorem zd86_14 : decode zxm86.2.1 14 = .ok (.invokevirtual 51, 3) := by decide +kernel
theorem zd86_17 : decode zxm86.2.1 17 = .ok (.aload_n 0, 1) := by decide +kernel
theorem zd86_18 : decode zxm86.2.1 18 = .ok (.getfield 41, 3) := by decide +kernel
theorem zd86_21 : decode zxm86.2.1 21 = .ok (.aload_n 0, 1) := by decide +kernel
theorem zd86_22 : decode zxm86.2.1 22 = .ok (.getfield 37, 3) := by decide +kernel
theorem zd86_25 : decode zxm86.2.1 25 = .ok (.invokevirtual 56, 3) := by decide +kernel
theorem zd86_28 : decode zxm86.2.1 28 = .ok (.aload_n 0, 1) := by decide +kernel
theorem zd86_29 : decode zxm86.2.1 29 = .ok (.getfield 41, 3) := by decide +kernel
theorem zd86_32 : decode zxm86.2.1 32 = .ok (.getfield 60, 3) := by decide +kernel
theorem zd86_35 : decode zxm86.2.1 35 = .ok (.bipush 10, 2) := by decide +kernel
theorem zd86_37 : decode zxm86.2.1 37 = .ok (.iload_n 1, 1) := by decide +kernel
theorem zd86_38 : decode zxm86.2.1 38 = .ok (.iastore, 1) := by decide +kernel
theorem zd86_39 : decode zxm86.2.1 39 = .ok (.aload_n 0, 1) := by decide +kernel
theorem zd86_40 : decode zxm86.2.1 40 = .ok (.getfield 41, 3) := by decide +kernel
theorem zd86_43 : decode zxm86.2.1 43 = .ok (.getfield 60, 3) := by decide +kernel
theorem zd86_46 : decode zxm86.2.1 46 = .ok (.bipush 11, 2) := by decide +kernel
theorem zd86_48 : decode zxm86.2.1 48 = .ok (.iload_n 2, 1) := by decide +kernel
theorem zd86_49 : decode zxm86.2.1 49 = .ok (.iastore, 1) := by decide +kernel
theorem zd86_50 : decode zxm86.2.1 50 = .ok (.return_, 1) := by decide +kernel
theorem zt_View_goTo {x1 : Int} {x2 : Int} {f0 : Int} {f1 : Int} {f4 : Int} {f5 : Int} {g0 : (Int → Int)} {o : Int × Int × (Int → Int)} (h : zf_View_goTo x1 x2 f0 f1 f4 f5 g0 = some o) : zv_Fn z_TB z_cl z_KX zy_View_goTo zxm86 (2, 120) [.inr 0, .inl x1, .inl x2] [.inl f0, .inl f1, .inr 1, .inr 3, .inl f4, .inl f5] [g0] none [.inl o.1, .inl o.2.1, .inr 1, .inr 3, .inl f4, .inl f5] [o.2.2] := zv_meth (K := (z_KF11, z_KC11, z_KL11, z_KT11, [], [], [], none)) (FT := z_FT) (MT := z_MT) (n := 3) zxp86 (z_ks11 _ (fun _ h => List.mem_cons_of_mem _ h) _ _ _ _ (fun j r h _ => by cases h)) (fun _ _ => zs_KX_p) zyw_View_goTo (fun va F G h => by obtain ⟨rfl, _⟩ := h; rfl) (fun va F G h => by obtain ⟨rfl, _⟩ := h; rfl) rfl fun good va F G hB hret hvret hP => by
  obtain ⟨rfl, rfl, rfl⟩ := hP
  unfold zf_View_goTo at h
  refine zv_ald hB zd86_0 rfl rfl rfl ?_
  refine zv_ild hB zd86_1 rfl rfl ?_
  refine zv_putf hB zd86_2 rfl rfl (fun h => by cases h) rfl ?_
  refine zv_ald hB zd86_5 rfl rfl rfl ?_
  refine zv_ild hB zd86_6 rfl rfl ?_
  refine zv_putf hB zd86_7 rfl rfl (fun h => by cases h) rfl ?_
  refine zv_ald hB zd86_10 rfl rfl rfl ?_
  refine zv_getq hB zd86_11 rfl rfl rfl ?_
  obtain ⟨r1, hr1, h⟩ := zi_bind h
  refine zv_cv hB (zv_emq (va2 := [.inr 1]) (F := [.inl x1, .inl x2, .inr 1, .inr 3, .inl f4, .inl f5]) (F' := [.inl x1, .inl x2, .inr 1, .inr 3, .inl f4, .inl f5]) (G := [g0]) (G' := [r1]) (ρ := [1, 2]) (φ := []) (ψ := [0]) [none, none, none, none, none, none] [some 0] zyw_Law_forgetLetters zyw_View_goTo zye_View_goTo (by decide +kernel) (zt_Law_forgetLetters hr1) trivial ⟨rfl, trivial⟩ rfl rfl rfl rfl rfl rfl rfl) zd86_14 zxt87 rfl (by decide) (by decide) rfl ?_
  refine zv_ald hB zd86_17 rfl rfl rfl ?_
  refine zv_getq hB zd86_18 rfl rfl rfl ?_
  refine zv_ald hB zd86_21 rfl rfl rfl ?_
  refine zv_getq hB zd86_22 rfl rfl rfl ?_
  obtain ⟨r2, hr2, h⟩ := zi_bind h
  refine zv_cv hB (zv_emq (va2 := [.inr 1, .inr 3]) (F := [.inl x1, .inl x2, .inr 1, .inr 3, .inl f4, .inl f5]) (F' := [.inl x1, .inl x2, .inr 1, .inr 3, .inl f4, .inl f5]) (G := [r1]) (G' := [r2]) (ρ := [1, 3, 2]) (φ := [4, 5]) (ψ := [0]) [none, none, none, none, some 0, some 1] [some 0] zyw_Law_setTime zyw_View_goTo zye_View_goTo (by decide +kernel) (zt_Law_setTime hr2) ⟨⟨_, rfl, fun _ => rfl⟩, ⟨_, rfl, fun _ => rfl⟩, trivial⟩ ⟨rfl, trivial⟩ rfl rfl rfl rfl rfl rfl rfl) zd86_25 zxt88 rfl (by decide) (by decide) rfl ?_
  refine zv_ald hB zd86_28 rfl rfl rfl ?_
  refine zv_getq hB zd86_29 rfl rfl rfl ?_
  refine zv_getr hB zd86_32 rfl ?_
  refine zv_con hB zd86_35 rfl ?_
  refine zv_ild hB zd86_37 rfl rfl ?_
  refine zv_iast hB zd86_38 rfl rfl (by decide) (by decide) ?_
  refine zv_ald hB zd86_39 rfl rfl rfl ?_
  refine zv_getq hB zd86_40 rfl rfl rfl ?_
  refine zv_getr hB zd86_43 rfl ?_
  refine zv_con hB zd86_46 rfl ?_
  refine zv_ild hB zd86_48 rfl rfl ?_
  refine zv_iast hB zd86_49 rfl rfl (by decide) (by decide) ?_
  have hw := Option.some.inj h
  subst hw
  exact hvret _ _ _ _ zd86_50 trivial ⟨rfl, rfl, rfl⟩
/-! Math_abs (I)I -/
-- names: 
-- fields: ; arrays: ; out: [('ret', None)]
abbrev zy_Math_abs : zNL := (0, [], [], [], [])
theorem zyw_Math_abs : zv_wf zy_Math_abs = true := by decide +kernel
theorem zye_Math_abs : zv_ek2 zy_Math_abs = true := by decide +kernel
def zf_Math_abs (x0 : Int) : Option (Int) := if x0 < 0 then (some (zi_w (-x0))) else (some x0)
theorem zd91_0 : decode zxm91.2.1 0 = .ok (.iload_n 0, 1) := by decide +kernel
theorem zd91_1 : decode zxm91.2.1 1 = .ok (.ifCond .ge 8, 3) := by decide +kernel
theorem zd91_4 : decode zxm91.2.1 4 = .ok (.iload_n 0, 1) := by decide +kernel
theorem zd91_5 : decode zxm91.2.1 5 = .ok (.ineg, 1) := by decide +kernel
theorem zd91_6 : decode zxm91.2.1 6 = .ok (.goto 4, 3) := by decide +kernel
theorem zd91_9 : decode zxm91.2.1 9 = .ok (.iload_n 0, 1) := by decide +kernel
theorem zd91_10 : decode zxm91.2.1 10 = .ok (.ireturn, 1) := by decide +kernel
theorem zt_Math_abs {x0 : Int} {o : Int} (h : zf_Math_abs x0 = some o) : zv_Fn z_TB z_cl z_KX zy_Math_abs zxm91 (0, 0) [.inl x0] [] [] (some o) [] [] := zv_meth (K := (z_KF16, z_KC16, z_KL16, z_KT16, [], [], [], none)) (FT := z_FT) (MT := z_MT) (n := 1) zxp91 (z_ks16 _ (fun _ h => List.mem_cons_of_mem _ h) _ _ _ _ (fun j r h _ => by cases h)) (fun _ _ => zs_KX_p) zyw_Math_abs (fun va F G h => by obtain ⟨rfl, _⟩ := h; rfl) (fun va F G h => by obtain ⟨rfl, _⟩ := h; rfl) rfl fun good va F G hB hret hvret hP => by
  obtain ⟨rfl, rfl, rfl⟩ := hP
  unfold zf_Math_abs at h
  refine zv_ild hB zd91_0 rfl rfl ?_
  refine zv_zge hB zd91_1 rfl (fun hc1 => ?_) (fun hc1 => ?_)
  · rw [if_neg (Int.not_lt.mpr hc1)] at h
    refine zv_ild hB zd91_9 rfl rfl ?_
    have hw := Option.some.inj h
    subst hw
    exact hret _ _ _ _ _ zd91_10 (by trivial) ⟨rfl, rfl, rfl⟩
  · rw [if_pos hc1] at h
    refine zv_ild hB zd91_4 rfl rfl ?_
    refine zv_negw hB zd91_5 ?_
    refine zv_goto hB zd91_6 rfl ?_
    have hw := Option.some.inj h
    subst hw
    exact hret _ _ _ _ _ zd91_10 (by trivial) ⟨rfl, rfl, rfl⟩
/-! X_columnsBetween (II)I -/
-- names: 
-- fields: ; arrays: ; out: [('ret', None)]
abbrev zy_X_columnsBetween : zNL := (0, [], [], [], [])
theorem zyw_X_columnsBetween : zv_wf zy_X_columnsBetween = true := by decide +kernel
theorem zye_X_columnsBetween : zv_ek2 zy_X_columnsBetween = true := by decide +kernel
def zf_X_columnsBetween (x0 : Int) (x1 : Int) : Option (Int) := (zf_Math_abs (zi_w (x0 - x1))).bind fun r1 => ((zf_Math_min r1 (zi_w (24 - r1))).bind fun r2 => (some r2))
theorem zd90_0 : decode zxm90.2.1 0 = .ok (.iload_n 0, 1) := by decide +kernel
theorem zd90_1 : decode zxm90.2.1 1 = .ok (.iload_n 1, 1) := by decide +kernel
theorem zd90_2 : decode zxm90.2.1 2 = .ok (.isub, 1) := by decide +kernel
theorem zd90_3 : decode zxm90.2.1 3 = .ok (.invokestatic 426, 3) := by decide +kernel
theorem zd90_6 : decode zxm90.2.1 6 = .ok (.istore_n 2, 1) := by decide +kernel
theorem zd90_7 : decode zxm90.2.1 7 = .ok (.iload_n 2, 1) := by decide +kernel
theorem zd90_8 : decode zxm90.2.1 8 = .ok (.bipush 24, 2) := by decide +kernel
theorem zd90_10 : decode zxm90.2.1 10 = .ok (.iload_n 2, 1) := by decide +kernel
theorem zd90_11 : decode zxm90.2.1 11 = .ok (.isub, 1) := by decide +kernel
theorem zd90_12 : decode zxm90.2.1 12 = .ok (.invokestatic 429, 3) := by decide +kernel
theorem zd90_15 : decode zxm90.2.1 15 = .ok (.ireturn, 1) := by decide +kernel
theorem zt_X_columnsBetween {x0 : Int} {x1 : Int} {o : Int} (h : zf_X_columnsBetween x0 x1 = some o) : zv_Fn z_TB z_cl z_KX zy_X_columnsBetween zxm90 (1, 60) [.inl x0, .inl x1] [] [] (some o) [] [] := zv_meth (K := (z_KF0, z_KC0, z_KL0, z_KT0, [], [], [], none)) (FT := z_FT) (MT := z_MT) (n := 2) zxp90 (z_ks0 _ (fun _ h => List.mem_cons_of_mem _ h) _ _ _ _ (fun j r h _ => by cases h)) (fun _ _ => zs_KX_p) zyw_X_columnsBetween (fun va F G h => by obtain ⟨rfl, _⟩ := h; rfl) (fun va F G h => by obtain ⟨rfl, _⟩ := h; rfl) rfl fun good va F G hB hret hvret hP => by
  obtain ⟨rfl, rfl, rfl⟩ := hP
  unfold zf_X_columnsBetween at h
  refine zv_ild hB zd90_0 rfl rfl ?_
  refine zv_ild hB zd90_1 rfl rfl ?_
  refine zv_subw hB zd90_2 ?_
  obtain ⟨r1, hr1, h⟩ := zi_bind h
  refine zv_cs hB (zv_emq (va2 := [.inl (zi_w (x0 - x1))]) (F := []) (F' := []) (G := []) (G' := []) (ρ := []) (φ := []) (ψ := []) [] [] zyw_Math_abs zyw_X_columnsBetween zye_X_columnsBetween (by decide +kernel) (zt_Math_abs hr1) trivial trivial rfl rfl rfl rfl rfl rfl rfl) zd90_3 zxt91 rfl (by decide) (by decide) rfl ?_
  refine zv_ist hB zd90_6 rfl rfl rfl ?_
  refine zv_ild hB zd90_7 rfl rfl ?_
  refine zv_con hB zd90_8 rfl ?_
  refine zv_ild hB zd90_10 rfl rfl ?_
  refine zv_subw hB zd90_11 ?_
  obtain ⟨r2, hr2, h⟩ := zi_bind h
  refine zv_cs hB (zv_emq (va2 := [.inl r1, .inl (zi_w (24 - r1))]) (F := []) (F' := []) (G := []) (G' := []) (ρ := []) (φ := []) (ψ := []) [] [] zyw_Math_min zyw_X_columnsBetween zye_X_columnsBetween (by decide +kernel) (zt_Math_min hr2) trivial trivial rfl rfl rfl rfl rfl rfl rfl) zd90_12 zxt37 rfl (by decide) (by decide) rfl ?_
  have hw := Option.some.inj h
  subst hw
  exact hret _ _ _ _ _ zd90_15 (by trivial) ⟨rfl, rfl, rfl⟩
/-! Law_setStar (LStarTales$Sky;I)V -/
-- names: 0 Law('arg', 0), 1 Sky('arg', 1), 2 (0, 13)(0, 4, 12), 3 (0, 24)(1, 1, 3), 4 (0, 24)(1, 1, 2), 5 (0, 24)(1, 1, 1)
-- fields: f0 = 1.hour_; arrays: g0 = 2, g1 = 3, g2 = 4, g3 = 5; out: [('g', 0)]
abbrev zy_Law_setStar : zNL := (6, [(0, 4), (1, 1)], [(1, 1, 6, 0)], [(0, 4, 12, 2), (1, 1, 3, 3), (1, 1, 2, 4), (1, 1, 1, 5)], [(2, 0, 13, 0), (3, 0, 24, 1), (4, 0, 24, 2), (5, 0, 24, 3)])
theorem zyw_Law_setStar : zv_wf zy_Law_setStar = true := by decide +kernel
theorem zye_Law_setStar : zv_ek2 zy_Law_setStar = true := by decide +kernel
def zf_Law_setStar (x2 : Int) (f0 : Int) (g0 : (Int → Int)) (g1 : (Int → Int)) (g2 : (Int → Int)) (g3 : (Int → Int)) : Option ((Int → Int)) := cond (zi_ix x2 24) ((zf_Sky_standing x2 f0 g3).bind fun r2 => (some (zv_up (zv_up (zv_up (zv_up g0 2 x2) 3 (g1 x2)) 4 (g2 x2)) 5 r2))) none
theorem zd92_0 : decode zxm92.2.1 0 = .ok (.aload_n 0, 1) := by decide +kernel
theorem zd92_1 : decode zxm92.2.1 1 = .ok (.getfield 56, 3) := by decide +kernel
theorem zd92_4 : decode zxm92.2.1 4 = .ok (.iconst 2, 1) := by decide +kernel
theorem zd92_5 : decode zxm92.2.1 5 = .ok (.iload_n 2, 1) := by decide +kernel
theorem zd92_6 : decode zxm92.2.1 6 = .ok (.iastore, 1) := by decide +kernel
theorem zd92_7 : decode zxm92.2.1 7 = .ok (.aload_n 0, 1) := by decide +kernel
theorem zd92_8 : decode zxm92.2.1 8 = .ok (.getfield 56, 3) := by decide +kernel
theorem zd92_11 : decode zxm92.2.1 11 = .ok (.iconst 3, 1) := by decide +kernel
theorem zd92_12 : decode zxm92.2.1 12 = .ok (.aload_n 1, 1) := by decide +kernel
theorem zd92_13 : decode zxm92.2.1 13 = .ok (.getfield 83, 3) := by decide +kernel
theorem zd92_16 : decode zxm92.2.1 16 = .ok (.iload_n 2, 1) := by decide +kernel
theorem zd92_17 : decode zxm92.2.1 17 = .ok (.iaload, 1) := by decide +kernel
theorem zd92_18 : decode zxm92.2.1 18 = .ok (.iastore, 1) := by decide +kernel
theorem zd92_19 : decode zxm92.2.1 19 = .ok (.aload_n 0, 1) := by decide +kernel
theorem zd92_20 : decode zxm92.2.1 20 = .ok (.getfield 56, 3) := by decide +kernel
theorem zd92_23 : decode zxm92.2.1 23 = .ok (.iconst 4, 1) := by decide +kernel
theorem zd92_24 : decode zxm92.2.1 24 = .ok (.aload_n 1, 1) := by decide +kernel
theorem zd92_25 : decode zxm92.2.1 25 = .ok (.getfield 86, 3) := by decide +kernel
theorem zd92_28 : decode zxm92.2.1 28 = .ok (.iload_n 2, 1) := by decide +kernel
theorem zd92_29 : decode zxm92.2.1 29 = .ok (.iaload, 1) := by decide +kernel
theorem zd92_30 : decode zxm92.2.1 30 = .ok (.iastore, 1) := by decide +kernel
theorem zd92_31 : decode zxm92.2.1 31 = .ok (.aload_n 0, 1) := by decide +kernel
theorem zd92_32 : decode zxm92.2.1 32 = .ok (.getfield 56, 3) := by decide +kernel
theorem zd92_35 : decode zxm92.2.1 35 = .ok (.iconst 5, 1) := by decide +kernel
theorem zd92_36 : decode zxm92.2.1 36 = .ok (.aload_n 1, 1) := by decide +kernel
theorem zd92_37 : decode zxm92.2.1 37 = .ok (.iload_n 2, 1) := by decide +kernel
theorem zd92_38 : decode zxm92.2.1 38 = .ok (.invokevirtual 89, 3) := by decide +kernel
theorem zd92_41 : decode zxm92.2.1 41 = .ok (.iastore, 1) := by decide +kernel
theorem zd92_42 : decode zxm92.2.1 42 = .ok (.return_, 1) := by decide +kernel
theorem zt_Law_setStar {x2 : Int} {f0 : Int} {g0 : (Int → Int)} {g1 : (Int → Int)} {g2 : (Int → Int)} {g3 : (Int → Int)} {o : (Int → Int)} (h : zf_Law_setStar x2 f0 g0 g1 g2 g3 = some o) : zv_Fn z_TB z_cl z_KX zy_Law_setStar zxm92 (1, 60) [.inr 0, .inr 1, .inl x2] [.inl f0] [g0, g1, g2, g3] none [.inl f0] [o, g1, g2, g3] := zv_meth (K := (z_KF2, z_KC2, z_KL2, z_KT2, [], [], [], none)) (FT := z_FT) (MT := z_MT) (n := 3) zxp92 (z_ks2 _ (fun _ h => List.mem_cons_of_mem _ h) _ _ _ _ (fun j r h _ => by cases h)) (fun _ _ => zs_KX_p) zyw_Law_setStar (fun va F G h => by obtain ⟨rfl, _⟩ := h; rfl) (fun va F G h => by obtain ⟨rfl, _⟩ := h; rfl) rfl fun good va F G hB hret hvret hP => by
  obtain ⟨rfl, rfl, rfl⟩ := hP
  unfold zf_Law_setStar at h
  refine zv_ald hB zd92_0 rfl rfl rfl ?_
  refine zv_getr hB zd92_1 rfl ?_
  refine zv_con hB zd92_4 rfl ?_
  refine zv_ild hB zd92_5 rfl rfl ?_
  refine zv_iast hB zd92_6 rfl rfl (by decide) (by decide) ?_
  refine zv_ald hB zd92_7 rfl rfl rfl ?_
  refine zv_getr hB zd92_8 rfl ?_
  refine zv_con hB zd92_11 rfl ?_
  refine zv_ald hB zd92_12 rfl rfl rfl ?_
  refine zv_getr hB zd92_13 rfl ?_
  refine zv_ild hB zd92_16 rfl rfl ?_
  obtain ⟨c1, h⟩ := zi_if h
  refine zv_iald hB zd92_17 rfl rfl (zi_ix_ok c1).1 (zi_ix_ok c1).2 (fun _ _ => ?_)
  refine zv_iast hB zd92_18 rfl rfl (by decide) (by decide) ?_
  refine zv_ald hB zd92_19 rfl rfl rfl ?_
  refine zv_getr hB zd92_20 rfl ?_
  refine zv_con hB zd92_23 rfl ?_
  refine zv_ald hB zd92_24 rfl rfl rfl ?_
  refine zv_getr hB zd92_25 rfl ?_
  refine zv_ild hB zd92_28 rfl rfl ?_
  refine zv_iald hB zd92_29 rfl rfl (zi_ix_ok c1).1 (zi_ix_ok c1).2 (fun _ _ => ?_)
  refine zv_iast hB zd92_30 rfl rfl (by decide) (by decide) ?_
  refine zv_ald hB zd92_31 rfl rfl rfl ?_
  refine zv_getr hB zd92_32 rfl ?_
  refine zv_con hB zd92_35 rfl ?_
  refine zv_ald hB zd92_36 rfl rfl rfl ?_
  refine zv_ild hB zd92_37 rfl rfl ?_
  obtain ⟨r2, hr2, h⟩ := zi_bind h
  refine zv_cv hB (zv_emq (va2 := [.inr 1, .inl x2]) (F := [.inl f0]) (F' := [.inl f0]) (G := [(zv_up (zv_up (zv_up g0 2 x2) 3 (g1 x2)) 4 (g2 x2)), g1, g2, g3]) (G' := [(zv_up (zv_up (zv_up g0 2 x2) 3 (g1 x2)) 4 (g2 x2)), g1, g2, g3]) (ρ := [1, 5]) (φ := [0]) (ψ := [3]) [some 0] [none, none, none, some 0] zyw_Sky_standing zyw_Law_setStar zye_Law_setStar (by decide +kernel) (zt_Sky_standing hr2) ⟨⟨_, rfl, fun _ => rfl⟩, trivial⟩ ⟨rfl, trivial⟩ rfl rfl rfl rfl rfl rfl rfl) zd92_38 zxt82 rfl (by decide) (by decide) rfl ?_
  refine zv_iast hB zd92_41 rfl rfl (by decide) (by decide) ?_
  have hw := Option.some.inj h
  subst hw
  exact hvret _ _ _ _ zd92_42 trivial ⟨rfl, rfl, rfl⟩
/-! Math_max (II)I -/
-- names: 
-- fields: ; arrays: ; out: [('ret', None)]
abbrev zy_Math_max : zNL := (0, [], [], [], [])
theorem zyw_Math_max : zv_wf zy_Math_max = true := by decide +kernel
theorem zye_Math_max : zv_ek2 zy_Math_max = true := by decide +kernel
def zf_Math_max (x0 : Int) (x1 : Int) : Option (Int) := if x0 < x1 then (some x1) else (some x0)
theorem zt_Math_max {x0 : Int} {x1 : Int} {o : Int} (h : zf_Math_max x0 x1 = some o) : zv_Fn z_TB z_cl z_KX zy_Math_max zxm55 (0, 0) [.inl x0, .inl x1] [] [] (some o) [] [] := zv_meth (K := (z_KF16, z_KC16, z_KL16, z_KT16, [], [], [], none)) (FT := z_FT) (MT := z_MT) (n := 2) zxp55 (z_ks16 _ (fun _ h => List.mem_cons_of_mem _ h) _ _ _ _ (fun j r h _ => by cases h)) (fun _ _ => zs_KX_p) zyw_Math_max (fun va F G h => by obtain ⟨rfl, _⟩ := h; rfl) (fun va F G h => by obtain ⟨rfl, _⟩ := h; rfl) rfl fun good va F G hB hret hvret hP => by
  obtain ⟨rfl, rfl, rfl⟩ := hP
  unfold zf_Math_max at h
  refine zv_ild hB zd55_0 rfl rfl ?_
  refine zv_ild hB zd55_1 rfl rfl ?_
  refine zv_clt hB zd55_2 rfl (fun hc1 => ?_) (fun hc1 => ?_)
  · rw [if_pos hc1] at h
    refine zv_ild hB zd55_9 rfl rfl ?_
    have hw := Option.some.inj h
    subst hw
    exact hret _ _ _ _ _ zd55_10 (by trivial) ⟨rfl, rfl, rfl⟩
  · rw [if_neg (Int.not_lt.mpr hc1)] at h
    refine zv_ild hB zd55_5 rfl rfl ?_
    refine zv_goto hB zd55_6 rfl ?_
    have hw := Option.some.inj h
    subst hw
    exact hret _ _ _ _ _ zd55_10 (by trivial) ⟨rfl, rfl, rfl⟩
end
