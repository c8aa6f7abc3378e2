/-! Methods as functions, and that they do what these do. -/
/-! LawReader_skip (I)V -/
-- names: 0 LawReader('arg', 0), 1 (0, 220)(0, 5, 0)
-- fields: f0 = 0.fault_, f1 = 0.at_, f2 = 0.length_; arrays: g0 = 1; out: [('f', 0), ('f', 1)]
abbrev zy_LawReader_skip : zNL := (2, [(0, 5)], [(0, 5, 3, 0), (0, 5, 2, 1), (0, 5, 1, 2)], [(0, 5, 0, 1)], [(1, 0, 220, 0)])
theorem zyw_LawReader_skip : zv_wf zy_LawReader_skip = true := by decide +kernel
theorem zye_LawReader_skip : zv_ek2 zy_LawReader_skip = true := by decide +kernel
def zf_LawReader_skip (x1 : Int) (f0 : Int) (f1 : Int) (f2 : Int) (g0 : (Int → Int)) : Option (Int × Int) := if f0 = 0 then ((zf_LawReader_peek f1 f2 g0).bind fun r2 => (if r2 = x1 then (some (f0, (zi_w (f1 + 1)))) else ((zf_LawReader_fail 1 f0 f1).bind fun r4 => (some (r4, f1))))) else (some (f0, f1))
theorem zd46_0 : decode zxm46.2.1 0 = .ok (.aload_n 0, 1) := by decide +kernel
theorem zd46_1 : decode zxm46.2.1 1 = .ok (.getfield 18, 3) := by decide +kernel
theorem zd46_4 : decode zxm46.2.1 4 = .ok (.ifCond .eq 4, 3) := by decide +kernel
theorem zd46_7 : decode zxm46.2.1 7 = .ok (.return_, 1) := by decide +kernel
theorem zd46_8 : decode zxm46.2.1 8 = .ok (.aload_n 0, 1) := by decide +kernel
theorem zd46_9 : decode zxm46.2.1 9 = .ok (.invokevirtual 53, 3) := by decide +kernel
theorem zd46_12 : decode zxm46.2.1 12 = .ok (.iload_n 1, 1) := by decide +kernel
theorem zd46_13 : decode zxm46.2.1 13 = .ok (.if_icmp .ne 16, 3) := by decide +kernel
theorem zd46_16 : decode zxm46.2.1 16 = .ok (.aload_n 0, 1) := by decide +kernel
theorem zd46_17 : decode zxm46.2.1 17 = .ok (.dup, 1) := by decide +kernel
theorem zd46_18 : decode zxm46.2.1 18 = .ok (.getfield 15, 3) := by decide +kernel
theorem zd46_21 : decode zxm46.2.1 21 = .ok (.iconst 1, 1) := by decide +kernel
theorem zd46_22 : decode zxm46.2.1 22 = .ok (.iadd, 1) := by decide +kernel
theorem zd46_23 : decode zxm46.2.1 23 = .ok (.putfield 15, 3) := by decide +kernel
theorem zd46_26 : decode zxm46.2.1 26 = .ok (.goto 8, 3) := by decide +kernel
theorem zd46_29 : decode zxm46.2.1 29 = .ok (.aload_n 0, 1) := by decide +kernel
theorem zd46_30 : decode zxm46.2.1 30 = .ok (.iconst 1, 1) := by decide +kernel
theorem zd46_31 : decode zxm46.2.1 31 = .ok (.invokevirtual 57, 3) := by decide +kernel
theorem zd46_34 : decode zxm46.2.1 34 = .ok (.return_, 1) := by decide +kernel
theorem zt_LawReader_skip {x1 : Int} {f0 : Int} {f1 : Int} {f2 : Int} {g0 : (Int → Int)} {o : Int × Int} (h : zf_LawReader_skip x1 f0 f1 f2 g0 = some o) : zv_Fn z_TB z_cl z_KX zy_LawReader_skip zxm46 (2, 120) [.inr 0, .inl x1] [.inl f0, .inl f1, .inl f2] [g0] none [.inl o.1, .inl o.2, .inl f2] [g0] := zv_meth (K := (z_KF3, z_KC3, z_KL3, z_KT3, [], [], [], none)) (FT := z_FT) (MT := z_MT) (n := 2) zxp46 (z_ks3 _ (fun _ h => List.mem_cons_of_mem _ h) _ _ _ _ (fun j r h _ => by cases h)) (fun _ _ => zs_KX_p) zyw_LawReader_skip (fun va F G h => by obtain ⟨rfl, _⟩ := h; rfl) (fun va F G h => by obtain ⟨rfl, _⟩ := h; rfl) rfl fun good va F G hB hret hvret hP => by
  obtain ⟨rfl, rfl, rfl⟩ := hP
  unfold zf_LawReader_skip at h
  refine zv_ald hB zd46_0 rfl rfl rfl ?_
  refine zv_getf hB zd46_1 rfl rfl (fun _ _ => ?_)
  refine zv_zeq hB zd46_4 rfl (fun hc1 => ?_) (fun hc1 => ?_)
  · rw [if_pos hc1] at h
    refine zv_ald hB zd46_8 rfl rfl rfl ?_
    obtain ⟨r2, hr2, h⟩ := zi_bind h
    refine zv_cv hB (zv_emq (va2 := [.inr 0]) (F := [.inl f0, .inl f1, .inl f2]) (F' := [.inl f0, .inl f1, .inl f2]) (G := [g0]) (G' := [g0]) (ρ := [0, 1]) (φ := [1, 2]) (ψ := [0]) [none, some 0, some 1] [some 0] zyw_LawReader_peek zyw_LawReader_skip zye_LawReader_skip (by decide +kernel) (zt_LawReader_peek hr2) ⟨⟨_, rfl, fun _ => rfl⟩, ⟨_, rfl, fun _ => rfl⟩, trivial⟩ ⟨rfl, trivial⟩ rfl rfl rfl rfl rfl rfl rfl) zd46_9 zxt40 rfl (by decide) (by decide) rfl ?_
    refine zv_ild hB zd46_12 rfl rfl ?_
    refine zv_cne hB zd46_13 rfl (fun hc3 => ?_) (fun hc3 => ?_)
    · rw [if_neg hc3] at h
      refine zv_ald hB zd46_29 rfl rfl rfl ?_
      refine zv_con hB zd46_30 rfl ?_
      obtain ⟨r4, hr4, h⟩ := zi_bind h
      refine zv_cv hB (zv_emq (va2 := [.inr 0, .inl 1]) (F := [.inl f0, .inl f1, .inl f2]) (F' := [.inl r4, .inl f1, .inl f2]) (G := [g0]) (G' := [g0]) (ρ := [0]) (φ := [0, 1]) (ψ := []) [some 0, some 1, none] [none] zyw_LawReader_fail zyw_LawReader_skip zye_LawReader_skip (by decide +kernel) (zt_LawReader_fail hr4) ⟨⟨_, rfl, fun _ => rfl⟩, ⟨_, rfl, fun _ => rfl⟩, trivial⟩ trivial rfl rfl rfl rfl rfl rfl rfl) zd46_31 zxt41 rfl (by decide) (by decide) rfl ?_
      have hw := Option.some.inj h
      subst hw
      exact hvret _ _ _ _ zd46_34 trivial ⟨rfl, rfl, rfl⟩
    · rw [if_pos hc3] at h
      refine zv_ald hB zd46_16 rfl rfl rfl ?_
      refine zv_dup hB zd46_17 rfl ?_
      refine zv_getf hB zd46_18 rfl rfl (fun _ _ => ?_)
      refine zv_con hB zd46_21 rfl ?_
      refine zv_addw hB zd46_22 ?_
      refine zv_putf hB zd46_23 rfl rfl (fun h => by cases h) rfl ?_
      refine zv_goto hB zd46_26 rfl ?_
      have hw := Option.some.inj h
      subst hw
      exact hvret _ _ _ _ zd46_34 trivial ⟨rfl, rfl, rfl⟩
  · rw [if_neg hc1] at h
    have hw := Option.some.inj h
    subst hw
    exact hvret _ _ _ _ zd46_7 trivial ⟨rfl, rfl, rfl⟩
