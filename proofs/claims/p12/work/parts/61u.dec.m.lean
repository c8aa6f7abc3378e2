/-! 61u.dec, 61v.dec -/
section
/-! Methods as functions, and that they do what these do. -/
/-! M_factOf (I)I -/
-- names: 
-- fields: ; arrays: ; out: [('ret', None)]
abbrev zy_M_factOf : zNL := (0, [], [], [], [])
theorem zyw_M_factOf : zv_wf zy_M_factOf = true := by decide +kernel
theorem zye_M_factOf : zv_ek2 zy_M_factOf = true := by decide +kernel
def zf_M_factOf (x0 : Int) : Option (Int) := if x0 = 99 then (some 5) else (if x0 = 100 then (some 12) else (if x0 = 101 then (some 9) else (if x0 = 102 then (some (-1)) else (if x0 = 103 then (some (-1)) else (if x0 = 104 then (some 0) else (if x0 = 105 then (some 2) else (if x0 = 106 then (some (-1)) else (if x0 = 107 then (some 6) else (if x0 = 108 then (some (-1)) else (if x0 = 109 then (some 3) else (if x0 = 110 then (some 7) else (if x0 = 111 then (some (-1)) else (if x0 = 112 then (some (-1)) else (if x0 = 113 then (some (-1)) else (if x0 = 114 then (some 4) else (if x0 = 115 then (some 8) else (if x0 = 116 then (some (-1)) else (if x0 = 117 then (some 1) else (if x0 = 118 then (some (-1)) else (if x0 = 119 then (some (-1)) else (if x0 = 120 then (some 10) else (if x0 = 121 then (some 11) else (some (-1))))))))))))))))))))))))
theorem zd226_0 : decode zxm226.2.1 0 = .ok (.iload_n 0, 1) := by decide +kernel
theorem zd226_1 : decode zxm226.2.1 1 = .ok (.tableswitch 140 99 121 #[117, 137, 128, 140, 140, 107, 111, 140, 119, 140, 113, 122, 140, 140, 140, 115, 125, 140, 109, 140, 140, 131, 134], 107) := by decide +kernel
theorem zd226_108 : decode zxm226.2.1 108 = .ok (.iconst 0, 1) := by decide +kernel
theorem zd226_109 : decode zxm226.2.1 109 = .ok (.ireturn, 1) := by decide +kernel
theorem zd226_110 : decode zxm226.2.1 110 = .ok (.iconst 1, 1) := by decide +kernel
theorem zd226_111 : decode zxm226.2.1 111 = .ok (.ireturn, 1) := by decide +kernel
theorem zd226_112 : decode zxm226.2.1 112 = .ok (.iconst 2, 1) := by decide +kernel
theorem zd226_113 : decode zxm226.2.1 113 = .ok (.ireturn, 1) := by decide +kernel
theorem zd226_114 : decode zxm226.2.1 114 = .ok (.iconst 3, 1) := by decide +kernel
theorem zd226_115 : decode zxm226.2.1 115 = .ok (.ireturn, 1) := by decide +kernel
theorem zd226_116 : decode zxm226.2.1 116 = .ok (.iconst 4, 1) := by decide +kernel
theorem zd226_117 : decode zxm226.2.1 117 = .ok (.ireturn, 1) := by decide +kernel
theorem zd226_118 : decode zxm226.2.1 118 = .ok (.iconst 5, 1) := by decide +kernel
theorem zd226_119 : decode zxm226.2.1 119 = .ok (.ireturn, 1) := by decide +kernel
theorem zd226_120 : decode zxm226.2.1 120 = .ok (.bipush 6, 2) := by decide +kernel
theorem zd226_122 : decode zxm226.2.1 122 = .ok (.ireturn, 1) := by decide +kernel
theorem zd226_123 : decode zxm226.2.1 123 = .ok (.bipush 7, 2) := by decide +kernel
theorem zd226_125 : decode zxm226.2.1 125 = .ok (.ireturn, 1) := by decide +kernel
theorem zd226_126 : decode zxm226.2.1 126 = .ok (.bipush 8, 2) := by decide +kernel
theorem zd226_128 : decode zxm226.2.1 128 = .ok (.ireturn, 1) := by decide +kernel
theorem zd226_129 : decode zxm226.2.1 129 = .ok (.bipush 9, 2) := by decide +kernel
theorem zd226_131 : decode zxm226.2.1 131 = .ok (.ireturn, 1) := by decide +kernel
theorem zd226_132 : decode zxm226.2.1 132 = .ok (.bipush 10, 2) := by decide +kernel
theorem zd226_134 : decode zxm226.2.1 134 = .ok (.ireturn, 1) := by decide +kernel
theorem zd226_135 : decode zxm226.2.1 135 = .ok (.bipush 11, 2) := by decide +kernel
theorem zd226_137 : decode zxm226.2.1 137 = .ok (.ireturn, 1) := by decide +kernel
theorem zd226_138 : decode zxm226.2.1 138 = .ok (.bipush 12, 2) := by decide +kernel
theorem zd226_140 : decode zxm226.2.1 140 = .ok (.ireturn, 1) := by decide +kernel
theorem zd226_141 : decode zxm226.2.1 141 = .ok (.iconst (-1), 1) := by decide +kernel
theorem zd226_142 : decode zxm226.2.1 142 = .ok (.ireturn, 1) := by decide +kernel
theorem zt_M_factOf {x0 : Int} {o : Int} (h : zf_M_factOf x0 = some o) : zv_Fn z_TB z_cl z_KX zy_M_factOf zxm226 (0, 0) [.inl x0] [] [] (some o) [] [] := zv_meth (K := (z_KF13, z_KC13, z_KL13, z_KT13, [], [], [], none)) (FT := z_FT) (MT := z_MT) (n := 1) zxp226 (z_ks13 _ (fun _ h => List.mem_cons_of_mem _ h) _ _ _ _ (fun j r h _ => by cases h)) (fun _ _ => zs_KX_p) zyw_M_factOf (fun va F G h => by obtain ⟨rfl, _⟩ := h; rfl) (fun va F G h => by obtain ⟨rfl, _⟩ := h; rfl) rfl fun good va F G hB hret hvret hP => by
  obtain ⟨rfl, rfl, rfl⟩ := hP
  unfold zf_M_factOf at h
  refine zv_ild hB zd226_0 rfl rfl ?_
  refine zv_tsw hB zd226_1 rfl ?_
  refine ⟨fun hc1 => ⟨_, rfl, ?_⟩, fun hc1 => ?_⟩
  · replace hc1 : x0 = 99 := hc1
    rw [if_pos hc1] at h
    refine zv_con hB zd226_118 rfl ?_
    have hw := Option.some.inj h
    subst hw
    exact hret _ _ _ _ _ zd226_119 (by trivial) ⟨rfl, rfl, rfl⟩
  replace hc1 : x0 ≠ 99 := hc1
  rw [if_neg hc1] at h
  refine ⟨fun hc2 => ⟨_, rfl, ?_⟩, fun hc2 => ?_⟩
  · replace hc2 : x0 = 100 := hc2
    rw [if_pos hc2] at h
    refine zv_con hB zd226_138 rfl ?_
    have hw := Option.some.inj h
    subst hw
    exact hret _ _ _ _ _ zd226_140 (by trivial) ⟨rfl, rfl, rfl⟩
  replace hc2 : x0 ≠ 100 := hc2
  rw [if_neg hc2] at h
  refine ⟨fun hc3 => ⟨_, rfl, ?_⟩, fun hc3 => ?_⟩
  · replace hc3 : x0 = 101 := hc3
    rw [if_pos hc3] at h
    refine zv_con hB zd226_129 rfl ?_
    have hw := Option.some.inj h
    subst hw
    exact hret _ _ _ _ _ zd226_131 (by trivial) ⟨rfl, rfl, rfl⟩
  replace hc3 : x0 ≠ 101 := hc3
  rw [if_neg hc3] at h
  refine ⟨fun hc4 => ⟨_, rfl, ?_⟩, fun hc4 => ?_⟩
  · replace hc4 : x0 = 102 := hc4
    rw [if_pos hc4] at h
    refine zv_con hB zd226_141 rfl ?_
    have hw := Option.some.inj h
    subst hw
    exact hret _ _ _ _ _ zd226_142 (by trivial) ⟨rfl, rfl, rfl⟩
  replace hc4 : x0 ≠ 102 := hc4
  rw [if_neg hc4] at h
  refine ⟨fun hc5 => ⟨_, rfl, ?_⟩, fun hc5 => ?_⟩
  · replace hc5 : x0 = 103 := hc5
    rw [if_pos hc5] at h
    refine zv_con hB zd226_141 rfl ?_
    have hw := Option.some.inj h
    subst hw
    exact hret _ _ _ _ _ zd226_142 (by trivial) ⟨rfl, rfl, rfl⟩
  replace hc5 : x0 ≠ 103 := hc5
  rw [if_neg hc5] at h
  refine ⟨fun hc6 => ⟨_, rfl, ?_⟩, fun hc6 => ?_⟩
  · replace hc6 : x0 = 104 := hc6
    rw [if_pos hc6] at h
    refine zv_con hB zd226_108 rfl ?_
    have hw := Option.some.inj h
    subst hw
    exact hret _ _ _ _ _ zd226_109 (by trivial) ⟨rfl, rfl, rfl⟩
  replace hc6 : x0 ≠ 104 := hc6
  rw [if_neg hc6] at h
  refine ⟨fun hc7 => ⟨_, rfl, ?_⟩, fun hc7 => ?_⟩
  · replace hc7 : x0 = 105 := hc7
    rw [if_pos hc7] at h
    refine zv_con hB zd226_112 rfl ?_
    have hw := Option.some.inj h
    subst hw
    exact hret _ _ _ _ _ zd226_113 (by trivial) ⟨rfl, rfl, rfl⟩
  replace hc7 : x0 ≠ 105 := hc7
  rw [if_neg hc7] at h
  refine ⟨fun hc8 => ⟨_, rfl, ?_⟩, fun hc8 => ?_⟩
  · replace hc8 : x0 = 106 := hc8
    rw [if_pos hc8] at h
    refine zv_con hB zd226_141 rfl ?_
    have hw := Option.some.inj h
    subst hw
    exact hret _ _ _ _ _ zd226_142 (by trivial) ⟨rfl, rfl, rfl⟩
  replace hc8 : x0 ≠ 106 := hc8
  rw [if_neg hc8] at h
  refine ⟨fun hc9 => ⟨_, rfl, ?_⟩, fun hc9 => ?_⟩
  · replace hc9 : x0 = 107 := hc9
    rw [if_pos hc9] at h
    refine zv_con hB zd226_120 rfl ?_
    have hw := Option.some.inj h
    subst hw
    exact hret _ _ _ _ _ zd226_122 (by trivial) ⟨rfl, rfl, rfl⟩
  replace hc9 : x0 ≠ 107 := hc9
  rw [if_neg hc9] at h
  refine ⟨fun hc10 => ⟨_, rfl, ?_⟩, fun hc10 => ?_⟩
  · replace hc10 : x0 = 108 := hc10
    rw [if_pos hc10] at h
    refine zv_con hB zd226_141 rfl ?_
    have hw := Option.some.inj h
    subst hw
    exact hret _ _ _ _ _ zd226_142 (by trivial) ⟨rfl, rfl, rfl⟩
  replace hc10 : x0 ≠ 108 := hc10
  rw [if_neg hc10] at h
  refine ⟨fun hc11 => ⟨_, rfl, ?_⟩, fun hc11 => ?_⟩
  · replace hc11 : x0 = 109 := hc11
    rw [if_pos hc11] at h
    refine zv_con hB zd226_114 rfl ?_
    have hw := Option.some.inj h
    subst hw
    exact hret _ _ _ _ _ zd226_115 (by trivial) ⟨rfl, rfl, rfl⟩
  replace hc11 : x0 ≠ 109 := hc11
  rw [if_neg hc11] at h
  refine ⟨fun hc12 => ⟨_, rfl, ?_⟩, fun hc12 => ?_⟩
  · replace hc12 : x0 = 110 := hc12
    rw [if_pos hc12] at h
    refine zv_con hB zd226_123 rfl ?_
    have hw := Option.some.inj h
    subst hw
    exact hret _ _ _ _ _ zd226_125 (by trivial) ⟨rfl, rfl, rfl⟩
  replace hc12 : x0 ≠ 110 := hc12
  rw [if_neg hc12] at h
  refine ⟨fun hc13 => ⟨_, rfl, ?_⟩, fun hc13 => ?_⟩
  · replace hc13 : x0 = 111 := hc13
    rw [if_pos hc13] at h
    refine zv_con hB zd226_141 rfl ?_
    have hw := Option.some.inj h
    subst hw
    exact hret _ _ _ _ _ zd226_142 (by trivial) ⟨rfl, rfl, rfl⟩
  replace hc13 : x0 ≠ 111 := hc13
  rw [if_neg hc13] at h
  refine ⟨fun hc14 => ⟨_, rfl, ?_⟩, fun hc14 => ?_⟩
  · replace hc14 : x0 = 112 := hc14
    rw [if_pos hc14] at h
    refine zv_con hB zd226_141 rfl ?_
    have hw := Option.some.inj h
    subst hw
    exact hret _ _ _ _ _ zd226_142 (by trivial) ⟨rfl, rfl, rfl⟩
  replace hc14 : x0 ≠ 112 := hc14
  rw [if_neg hc14] at h
  refine ⟨fun hc15 => ⟨_, rfl, ?_⟩, fun hc15 => ?_⟩
  · replace hc15 : x0 = 113 := hc15
    rw [if_pos hc15] at h
    refine zv_con hB zd226_141 rfl ?_
    have hw := Option.some.inj h
    subst hw
    exact hret _ _ _ _ _ zd226_142 (by trivial) ⟨rfl, rfl, rfl⟩
  replace hc15 : x0 ≠ 113 := hc15
  rw [if_neg hc15] at h
  refine ⟨fun hc16 => ⟨_, rfl, ?_⟩, fun hc16 => ?_⟩
  · replace hc16 : x0 = 114 := hc16
    rw [if_pos hc16] at h
    refine zv_con hB zd226_116 rfl ?_
    have hw := Option.some.inj h
    subst hw
    exact hret _ _ _ _ _ zd226_117 (by trivial) ⟨rfl, rfl, rfl⟩
  replace hc16 : x0 ≠ 114 := hc16
  rw [if_neg hc16] at h
  refine ⟨fun hc17 => ⟨_, rfl, ?_⟩, fun hc17 => ?_⟩
  · replace hc17 : x0 = 115 := hc17
    rw [if_pos hc17] at h
    refine zv_con hB zd226_126 rfl ?_
    have hw := Option.some.inj h
    subst hw
    exact hret _ _ _ _ _ zd226_128 (by trivial) ⟨rfl, rfl, rfl⟩
  replace hc17 : x0 ≠ 115 := hc17
  rw [if_neg hc17] at h
  refine ⟨fun hc18 => ⟨_, rfl, ?_⟩, fun hc18 => ?_⟩
  · replace hc18 : x0 = 116 := hc18
    rw [if_pos hc18] at h
    refine zv_con hB zd226_141 rfl ?_
    have hw := Option.some.inj h
    subst hw
    exact hret _ _ _ _ _ zd226_142 (by trivial) ⟨rfl, rfl, rfl⟩
  replace hc18 : x0 ≠ 116 := hc18
  rw [if_neg hc18] at h
  refine ⟨fun hc19 => ⟨_, rfl, ?_⟩, fun hc19 => ?_⟩
  · replace hc19 : x0 = 117 := hc19
    rw [if_pos hc19] at h
    refine zv_con hB zd226_110 rfl ?_
    have hw := Option.some.inj h
    subst hw
    exact hret _ _ _ _ _ zd226_111 (by trivial) ⟨rfl, rfl, rfl⟩
  replace hc19 : x0 ≠ 117 := hc19
  rw [if_neg hc19] at h
  refine ⟨fun hc20 => ⟨_, rfl, ?_⟩, fun hc20 => ?_⟩
  · replace hc20 : x0 = 118 := hc20
    rw [if_pos hc20] at h
    refine zv_con hB zd226_141 rfl ?_
    have hw := Option.some.inj h
    subst hw
    exact hret _ _ _ _ _ zd226_142 (by trivial) ⟨rfl, rfl, rfl⟩
  replace hc20 : x0 ≠ 118 := hc20
  rw [if_neg hc20] at h
  refine ⟨fun hc21 => ⟨_, rfl, ?_⟩, fun hc21 => ?_⟩
  · replace hc21 : x0 = 119 := hc21
    rw [if_pos hc21] at h
    refine zv_con hB zd226_141 rfl ?_
    have hw := Option.some.inj h
    subst hw
    exact hret _ _ _ _ _ zd226_142 (by trivial) ⟨rfl, rfl, rfl⟩
  replace hc21 : x0 ≠ 119 := hc21
  rw [if_neg hc21] at h
  refine ⟨fun hc22 => ⟨_, rfl, ?_⟩, fun hc22 => ?_⟩
  · replace hc22 : x0 = 120 := hc22
    rw [if_pos hc22] at h
    refine zv_con hB zd226_132 rfl ?_
    have hw := Option.some.inj h
    subst hw
    exact hret _ _ _ _ _ zd226_134 (by trivial) ⟨rfl, rfl, rfl⟩
  replace hc22 : x0 ≠ 120 := hc22
  rw [if_neg hc22] at h
  refine ⟨fun hc23 => ⟨_, rfl, ?_⟩, fun hc23 => ?_⟩
  · replace hc23 : x0 = 121 := hc23
    rw [if_pos hc23] at h
    refine zv_con hB zd226_135 rfl ?_
    have hw := Option.some.inj h
    subst hw
    exact hret _ _ _ _ _ zd226_137 (by trivial) ⟨rfl, rfl, rfl⟩
  replace hc23 : x0 ≠ 121 := hc23
  rw [if_neg hc23] at h
  refine ⟨_, rfl, ?_⟩
  refine zv_con hB zd226_141 rfl ?_
  have hw := Option.some.inj h
  subst hw
  exact hret _ _ _ _ _ zd226_142 (by trivial) ⟨rfl, rfl, rfl⟩
/-! M_notes (II)V -/
-- names: 0 StarTalesModel('arg', 0), 1 (0, 220)(0, 12, 14)
-- fields: f0 = 0.codeMany_; arrays: g0 = 1; out: [('f', 0), ('g', 0)]
abbrev zy_M_notes : zNL := (2, [(0, 12)], [(0, 12, 9, 0)], [(0, 12, 14, 1)], [(1, 0, 220, 0)])
theorem zyw_M_notes : zv_wf zy_M_notes = true := by decide +kernel
theorem zye_M_notes : zv_ek2 zy_M_notes = true := by decide +kernel
def zf_M_notes (x1 : Int) (x2 : Int) (f0 : Int) (g0 : (Int → Int)) : Option (Int × (Int → Int)) := cond (zi_ix f0 220) (some ((zi_w (f0 + 1)), (zv_up g0 f0 (zi_w ((zi_w (1048576 * x1)) + x2))))) none
theorem zd225_0 : decode zxm225.2.1 0 = .ok (.aload_n 0, 1) := by decide +kernel
theorem zd225_1 : decode zxm225.2.1 1 = .ok (.getfield 23, 3) := by decide +kernel
theorem zd225_4 : decode zxm225.2.1 4 = .ok (.aload_n 0, 1) := by decide +kernel
theorem zd225_5 : decode zxm225.2.1 5 = .ok (.getfield 199, 3) := by decide +kernel
theorem zd225_8 : decode zxm225.2.1 8 = .ok (.ldc 202, 2) := by decide +kernel
theorem zd225_10 : decode zxm225.2.1 10 = .ok (.iload_n 1, 1) := by decide +kernel
theorem zd225_11 : decode zxm225.2.1 11 = .ok (.imul, 1) := by decide +kernel
theorem zd225_12 : decode zxm225.2.1 12 = .ok (.iload_n 2, 1) := by decide +kernel
theorem zd225_13 : decode zxm225.2.1 13 = .ok (.iadd, 1) := by decide +kernel
theorem zd225_14 : decode zxm225.2.1 14 = .ok (.iastore, 1) := by decide +kernel
theorem zd225_15 : decode zxm225.2.1 15 = .ok (.aload_n 0, 1) := by decide +kernel
theorem zd225_16 : decode zxm225.2.1 16 = .ok (.aload_n 0, 1) := by decide +kernel
theorem zd225_17 : decode zxm225.2.1 17 = .ok (.getfield 199, 3) := by decide +kernel
theorem zd225_20 : decode zxm225.2.1 20 = .ok (.iconst 1, 1) := by decide +kernel
theorem zd225_21 : decode zxm225.2.1 21 = .ok (.iadd, 1) := by decide +kernel
theorem zd225_22 : decode zxm225.2.1 22 = .ok (.putfield 199, 3) := by decide +kernel
theorem zd225_25 : decode zxm225.2.1 25 = .ok (.return_, 1) := by decide +kernel
theorem zt_M_notes {x1 : Int} {x2 : Int} {f0 : Int} {g0 : (Int → Int)} {o : Int × (Int → Int)} (h : zf_M_notes x1 x2 f0 g0 = some o) : zv_Fn z_TB z_cl z_KX zy_M_notes zxm225 (0, 0) [.inr 0, .inl x1, .inl x2] [.inl f0] [g0] none [.inl o.1] [o.2] := zv_meth (K := (z_KF13, z_KC13, z_KL13, z_KT13, [], [], [], none)) (FT := z_FT) (MT := z_MT) (n := 3) zxp225 (z_ks13 _ (fun _ h => List.mem_cons_of_mem _ h) _ _ _ _ (fun j r h _ => by cases h)) (fun _ _ => zs_KX_p) zyw_M_notes (fun va F G h => by obtain ⟨rfl, _⟩ := h; rfl) (fun va F G h => by obtain ⟨rfl, _⟩ := h; rfl) rfl fun good va F G hB hret hvret hP => by
  obtain ⟨rfl, rfl, rfl⟩ := hP
  unfold zf_M_notes at h
  refine zv_ald hB zd225_0 rfl rfl rfl ?_
  refine zv_getr hB zd225_1 rfl ?_
  refine zv_ald hB zd225_4 rfl rfl rfl ?_
  refine zv_getf hB zd225_5 rfl rfl (fun _ _ => ?_)
  refine zv_con (n := 1048576) hB zd225_8 (by decide +kernel) ?_
  refine zv_ild hB zd225_10 rfl rfl ?_
  refine zv_mulw hB zd225_11 ?_
  refine zv_ild hB zd225_12 rfl rfl ?_
  refine zv_addw hB zd225_13 ?_
  obtain ⟨c1, h⟩ := zi_if h
  refine zv_iast hB zd225_14 rfl rfl (zi_ix_ok c1).1 (zi_ix_ok c1).2 ?_
  refine zv_ald hB zd225_15 rfl rfl rfl ?_
  refine zv_ald hB zd225_16 rfl rfl rfl ?_
  refine zv_getf hB zd225_17 rfl rfl (fun _ _ => ?_)
  refine zv_con hB zd225_20 rfl ?_
  refine zv_addw hB zd225_21 ?_
  refine zv_putf hB zd225_22 rfl rfl (fun h => by cases h) rfl ?_
  have hw := Option.some.inj h
  subst hw
  exact hvret _ _ _ _ zd225_25 trivial ⟨rfl, rfl, rfl⟩
/-! M_readsNumber ()Z -/
-- names: 0 StarTalesModel('arg', 0), 1 (1, 220)(0, 12, 3)
-- fields: f0 = 0.place0_, f1 = 0.number0_, f2 = 0.length0_, f3 = 0.fault_; arrays: g0 = 1; out: [('ret', None), ('f', 0), ('f', 1), ('f', 3)]
abbrev zy_M_readsNumber : zNL := (2, [(0, 12)], [(0, 12, 5, 0), (0, 12, 12, 1), (0, 12, 6, 2), (0, 12, 7, 3)], [(0, 12, 3, 1)], [(1, 1, 220, 0)])
theorem zyw_M_readsNumber : zv_wf zy_M_readsNumber = true := by decide +kernel
theorem zye_M_readsNumber : zv_ek2 zy_M_readsNumber = true := by decide +kernel
def zf_M_readsNumber_l0_b (x1 : Int) (f2 : Int) (f3 : Int) (g0 : (Int → Int)) (rec : Int → Int → Option (((Int × Int) ⊕ (Int × Int × Int × Int)))) (f0 : Int) (f1 : Int) : Option (((Int × Int) ⊕ (Int × Int × Int × Int))) := (zf_M_isDigit f0 f2 g0).bind fun r1 => (if r1 = 0 then (some (.inl (f0, f1))) else (if f0 = (zi_w (x1 + 5)) then ((zf_M_wrongAt 2 f0 f3).bind fun r5 => (cond (zi_bo r5.1) (some (.inr (r5.1, f0, f1, r5.2))) none)) else ((zf_M_here f0 f2 g0).bind fun r4 => (rec (zi_w (f0 + 1)) (zi_w ((zi_w ((zi_w (10 * f1)) + r4)) - 48))))))
def zf_M_readsNumber_l0 (x1 : Int) (f2 : Int) (f3 : Int) (g0 : (Int → Int)) : Nat → Int → Int → Option (((Int × Int) ⊕ (Int × Int × Int × Int)))
  | 0, _, _ => none
  | n + 1, f0, f1 => zf_M_readsNumber_l0_b x1 f2 f3 g0 (zf_M_readsNumber_l0 x1 f2 f3 g0 n) f0 f1
def zf_M_readsNumber (f0 : Int) (f1 : Int) (f2 : Int) (f3 : Int) (g0 : (Int → Int)) : Option (Int × Int × Int × Int) := (zf_M_readsNumber_l0 f0 f2 f3 g0 zi_fu f0 0).bind fun q7 => Sum.elim (fun e8 => (some (1, e8.1, e8.2, f3))) (fun w9 => some w9) q7
theorem zd224_0 : decode zxm224.2.1 0 = .ok (.aload_n 0, 1) := by decide +kernel
theorem zd224_1 : decode zxm224.2.1 1 = .ok (.getfield 176, 3) := by decide +kernel
theorem zd224_4 : decode zxm224.2.1 4 = .ok (.istore_n 1, 1) := by decide +kernel
theorem zd224_5 : decode zxm224.2.1 5 = .ok (.aload_n 0, 1) := by decide +kernel
theorem zd224_6 : decode zxm224.2.1 6 = .ok (.iconst 0, 1) := by decide +kernel
theorem zd224_7 : decode zxm224.2.1 7 = .ok (.putfield 192, 3) := by decide +kernel
theorem zd224_10 : decode zxm224.2.1 10 = .ok (.aload_n 0, 1) := by decide +kernel
theorem zd224_11 : decode zxm224.2.1 11 = .ok (.invokevirtual 195, 3) := by decide +kernel
theorem zd224_14 : decode zxm224.2.1 14 = .ok (.ifCond .eq 55, 3) := by decide +kernel
theorem zd224_17 : decode zxm224.2.1 17 = .ok (.aload_n 0, 1) := by decide +kernel
theorem zd224_18 : decode zxm224.2.1 18 = .ok (.getfield 176, 3) := by decide +kernel
theorem zd224_21 : decode zxm224.2.1 21 = .ok (.iload_n 1, 1) := by decide +kernel
theorem zd224_22 : decode zxm224.2.1 22 = .ok (.iconst 5, 1) := by decide +kernel
theorem zd224_23 : decode zxm224.2.1 23 = .ok (.iadd, 1) := by decide +kernel
theorem zd224_24 : decode zxm224.2.1 24 = .ok (.if_icmp .ne 13, 3) := by decide +kernel
theorem zd224_27 : decode zxm224.2.1 27 = .ok (.aload_n 0, 1) := by decide +kernel
theorem zd224_28 : decode zxm224.2.1 28 = .ok (.iconst 2, 1) := by decide +kernel
theorem zd224_29 : decode zxm224.2.1 29 = .ok (.aload_n 0, 1) := by decide +kernel
theorem zd224_30 : decode zxm224.2.1 30 = .ok (.getfield 176, 3) := by decide +kernel
theorem zd224_33 : decode zxm224.2.1 33 = .ok (.invokevirtual 189, 3) := by decide +kernel
theorem zd224_36 : decode zxm224.2.1 36 = .ok (.ireturn, 1) := by decide +kernel
theorem zd224_37 : decode zxm224.2.1 37 = .ok (.aload_n 0, 1) := by decide +kernel
theorem zd224_38 : decode zxm224.2.1 38 = .ok (.bipush 10, 2) := by decide +kernel
theorem zd224_40 : decode zxm224.2.1 40 = .ok (.aload_n 0, 1) := by decide +kernel
theorem zd224_41 : decode zxm224.2.1 41 = .ok (.getfield 192, 3) := by decide +kernel
theorem zd224_44 : decode zxm224.2.1 44 = .ok (.imul, 1) := by decide +kernel
theorem zd224_45 : decode zxm224.2.1 45 = .ok (.aload_n 0, 1) := by decide +kernel
theorem zd224_46 : decode zxm224.2.1 46 = .ok (.invokevirtual 182, 3) := by decide +kernel
theorem zd224_49 : decode zxm224.2.1 49 = .ok (.iadd, 1) := by decide +kernel
theorem zd224_50 : decode zxm224.2.1 50 = .ok (.bipush 48, 2) := by decide +kernel
theorem zd224_52 : decode zxm224.2.1 52 = .ok (.isub, 1) := by decide +kernel
theorem zd224_53 : decode zxm224.2.1 53 = .ok (.putfield 192, 3) := by decide +kernel
theorem zd224_56 : decode zxm224.2.1 56 = .ok (.aload_n 0, 1) := by decide +kernel
theorem zd224_57 : decode zxm224.2.1 57 = .ok (.aload_n 0, 1) := by decide +kernel
theorem zd224_58 : decode zxm224.2.1 58 = .ok (.getfield 176, 3) := by decide +kernel
theorem zd224_61 : decode zxm224.2.1 61 = .ok (.iconst 1, 1) := by decide +kernel
theorem zd224_62 : decode zxm224.2.1 62 = .ok (.iadd, 1) := by decide +kernel
theorem zd224_63 : decode zxm224.2.1 63 = .ok (.putfield 176, 3) := by decide +kernel
theorem zd224_66 : decode zxm224.2.1 66 = .ok (.goto (-56), 3) := by decide +kernel
theorem zd224_69 : decode zxm224.2.1 69 = .ok (.iconst 1, 1) := by decide +kernel
theorem zd224_70 : decode zxm224.2.1 70 = .ok (.ireturn, 1) := by decide +kernel
theorem zt_M_readsNumber {f0 : Int} {f1 : Int} {f2 : Int} {f3 : Int} {g0 : (Int → Int)} {o : Int × Int × Int × Int} (h : zf_M_readsNumber f0 f1 f2 f3 g0 = some o) : zv_Fn z_TB z_cl z_KX zy_M_readsNumber zxm224 (2, 120) [.inr 0] [.inl f0, .inl f1, .inl f2, .inl f3] [g0] (some o.1) [.inl o.2.1, .inl o.2.2.1, .inl f2, .inl o.2.2.2] [g0] := zv_meth (K := (z_KF13, z_KC13, z_KL13, z_KT13, [], [], [], none)) (FT := z_FT) (MT := z_MT) (n := 1) zxp224 (z_ks13 _ (fun _ h => List.mem_cons_of_mem _ h) _ _ _ _ (fun j r h _ => by cases h)) (fun _ _ => zs_KX_p) zyw_M_readsNumber (fun va F G h => by obtain ⟨rfl, _⟩ := h; rfl) (fun va F G h => by obtain ⟨rfl, _⟩ := h; rfl) rfl fun good va F G hB hret hvret hP => by
  obtain ⟨rfl, rfl, rfl⟩ := hP
  have l0 : ∀ (n : Nat) (x1 : Int) (f0 : Int) (f1 : Int) (f3 : Int) (q : ((Int × Int) ⊕ (Int × Int × Int × Int))), zf_M_readsNumber_l0 x1 f2 f3 g0 n f0 f1 = some q → (Sum.elim (fun e : Int × Int => good 69 [.inr 1000, .inr 1000] [] [.inl e.1, .inl e.2, .inl f2, .inl f3] [g0]) (fun w : Int × Int × Int × Int => w = o) q) → good 10 [.inr 0, .inl x1] [] [.inl f0, .inl f1, .inl f2, .inl f3] [g0] := by
    intro n
    induction n with
    | zero => intro x1 f0 f1 f3 q h; exact absurd (show none = some q from h) (fun h => by cases h)
    | succ n ih =>
      intro x1 f0 f1 f3 q h hK
      replace h : zf_M_readsNumber_l0_b x1 f2 f3 g0 (zf_M_readsNumber_l0 x1 f2 f3 g0 n) f0 f1 = some q := h
      unfold zf_M_readsNumber_l0_b at h
      refine zv_ald hB zd224_10 rfl rfl rfl ?_
      obtain ⟨r1, hr1, h⟩ := zi_bind h
      refine zv_cv hB (zv_emq (va2 := [.inr 0]) (F := [.inl f0, .inl f1, .inl f2, .inl f3]) (F' := [.inl f0, .inl f1, .inl f2, .inl f3]) (G := [g0]) (G' := [g0]) (ρ := [0, 1]) (φ := [0, 2]) (ψ := [0]) [some 0, none, some 1, none] [some 0] zyw_M_isDigit zyw_M_readsNumber zye_M_readsNumber (by decide +kernel) (zt_M_isDigit hr1) ⟨⟨_, rfl, fun _ => rfl⟩, ⟨_, rfl, fun _ => rfl⟩, trivial⟩ ⟨rfl, trivial⟩ rfl rfl rfl rfl rfl rfl rfl) zd224_11 zxt223 rfl (by decide) (by decide) rfl ?_
      refine zv_zeq hB zd224_14 rfl (fun hc2 => ?_) (fun hc2 => ?_)
      · rw [if_pos hc2] at h
        have hq := Option.some.inj h
        subst hq
        refine zv_wk hB (L' := [.inr 1000, .inr 1000]) (F' := [.inl f0, .inl f1, .inl f2, .inl f3]) ⟨fun (h : zv_is (.inr 1000)) => (Nat.lt_irrefl 1000 h).elim, fun (h : zv_is (.inr 1000)) => (Nat.lt_irrefl 1000 h).elim, trivial⟩ ⟨fun _ => rfl, fun _ => rfl, fun _ => rfl, fun _ => rfl, trivial⟩ ?_
        exact hK
      · rw [if_neg hc2] at h
        refine zv_ald hB zd224_17 rfl rfl rfl ?_
        refine zv_getf hB zd224_18 rfl rfl (fun _ _ => ?_)
        refine zv_ild hB zd224_21 rfl rfl ?_
        refine zv_con hB zd224_22 rfl ?_
        refine zv_addw hB zd224_23 ?_
        refine zv_cne hB zd224_24 rfl (fun hc3 => ?_) (fun hc3 => ?_)
        · rw [if_neg hc3] at h
          refine zv_ald hB zd224_37 rfl rfl rfl ?_
          refine zv_con hB zd224_38 rfl ?_
          refine zv_ald hB zd224_40 rfl rfl rfl ?_
          refine zv_getf hB zd224_41 rfl rfl (fun _ _ => ?_)
          refine zv_mulw hB zd224_44 ?_
          refine zv_ald hB zd224_45 rfl rfl rfl ?_
          obtain ⟨r4, hr4, h⟩ := zi_bind h
          refine zv_cv hB (zv_emq (va2 := [.inr 0]) (F := [.inl f0, .inl f1, .inl f2, .inl f3]) (F' := [.inl f0, .inl f1, .inl f2, .inl f3]) (G := [g0]) (G' := [g0]) (ρ := [0, 1]) (φ := [0, 2]) (ψ := [0]) [some 0, none, some 1, none] [some 0] zyw_M_here zyw_M_readsNumber zye_M_readsNumber (by decide +kernel) (zt_M_here hr4) ⟨⟨_, rfl, fun _ => rfl⟩, ⟨_, rfl, fun _ => rfl⟩, trivial⟩ ⟨rfl, trivial⟩ rfl rfl rfl rfl rfl rfl rfl) zd224_46 zxt217 rfl (by decide) (by decide) rfl ?_
          refine zv_addw hB zd224_49 ?_
          refine zv_con hB zd224_50 rfl ?_
          refine zv_subw hB zd224_52 ?_
          refine zv_putf hB zd224_53 rfl rfl (fun h => by cases h) rfl ?_
          refine zv_ald hB zd224_56 rfl rfl rfl ?_
          refine zv_ald hB zd224_57 rfl rfl rfl ?_
          refine zv_getf hB zd224_58 rfl rfl (fun _ _ => ?_)
          refine zv_con hB zd224_61 rfl ?_
          refine zv_addw hB zd224_62 ?_
          refine zv_putf hB zd224_63 rfl rfl (fun h => by cases h) rfl ?_
          refine zv_goto hB zd224_66 rfl ?_
          exact ih _ _ _ _ q h hK
        · rw [if_pos hc3] at h
          refine zv_ald hB zd224_27 rfl rfl rfl ?_
          refine zv_con hB zd224_28 rfl ?_
          refine zv_ald hB zd224_29 rfl rfl rfl ?_
          refine zv_getf hB zd224_30 rfl rfl (fun _ _ => ?_)
          obtain ⟨r5, hr5, h⟩ := zi_bind h
          refine zv_cv hB (zv_emq (va2 := [.inr 0, .inl 2, .inl f0]) (F := [.inl f0, .inl f1, .inl f2, .inl f3]) (F' := [.inl f0, .inl f1, .inl f2, .inl r5.2]) (G := [g0]) (G' := [g0]) (ρ := [0]) (φ := [3]) (ψ := []) [none, none, none, some 0] [none] zyw_M_wrongAt zyw_M_readsNumber zye_M_readsNumber (by decide +kernel) (zt_M_wrongAt hr5) ⟨⟨_, rfl, fun _ => rfl⟩, trivial⟩ trivial rfl rfl rfl rfl rfl rfl rfl) zd224_33 zxt219 rfl (by decide) (by decide) rfl ?_
          obtain ⟨c6, h⟩ := zi_if h
          have hw : (r5.1, f0, f1, r5.2) = o := zi_rk (Option.some.inj h) hK
          subst hw
          exact hret _ _ _ _ _ zd224_36 (zi_bo_ok c6) ⟨rfl, rfl, rfl⟩
  unfold zf_M_readsNumber at h
  refine zv_ald hB zd224_0 rfl rfl rfl ?_
  refine zv_getf hB zd224_1 rfl rfl (fun _ _ => ?_)
  refine zv_ist hB zd224_4 rfl rfl rfl ?_
  refine zv_ald hB zd224_5 rfl rfl rfl ?_
  refine zv_con hB zd224_6 rfl ?_
  refine zv_putf hB zd224_7 rfl rfl (fun h => by cases h) rfl ?_
  obtain ⟨q7, hq7, h⟩ := zi_bind h
  refine l0 _ _ _ _ _ q7 hq7 ?_
  rcases q7 with e8 | w9
  · replace h := zi_sl h
    show good 69 [.inr 1000, .inr 1000] [] [.inl e8.1, .inl e8.2, .inl f2, .inl f3] [g0]
    refine zv_con hB zd224_69 rfl ?_
    have hw := Option.some.inj h
    subst hw
    exact hret _ _ _ _ _ zd224_70 (by constructor <;> decide) ⟨rfl, rfl, rfl⟩
  · exact Option.some.inj h
/-! M_readsFactor ()Z -/
-- names: 0 StarTalesModel('arg', 0), 1 (1, 220)(0, 12, 3), 2 (0, 220)(0, 12, 15), 3 (0, 220)(0, 12, 14)
-- fields: f0 = 0.place0_, f1 = 0.length0_, f2 = 0.open_, f3 = 0.waiting_, f4 = 0.fault_, f5 = 0.codeMany_, f6 = 0.number0_; arrays: g0 = 1, g1 = 2, g2 = 3; out: [('ret', None), ('f', 0), ('f', 2), ('f', 3), ('f', 4), ('f', 5), ('f', 6), ('g', 1), ('g', 2)]
abbrev zy_M_readsFactor : zNL := (4, [(0, 12)], [(0, 12, 5, 0), (0, 12, 6, 1), (0, 12, 8, 2), (0, 12, 10, 3), (0, 12, 7, 4), (0, 12, 9, 5), (0, 12, 12, 6)], [(0, 12, 3, 1), (0, 12, 15, 2), (0, 12, 14, 3)], [(1, 1, 220, 0), (2, 0, 220, 1), (3, 0, 220, 2)])
theorem zyw_M_readsFactor : zv_wf zy_M_readsFactor = true := by decide +kernel
theorem zye_M_readsFactor : zv_ek2 zy_M_readsFactor = true := by decide +kernel
def zf_M_readsFactor_l0_b (f1 : Int) (f5 : Int) (f6 : Int) (g0 : (Int → Int)) (g2 : (Int → Int)) (rec : Int → Int → Int → Int → (Int → Int) → Option (((Int × Int × Int × Int × (Int → Int)) ⊕ (Int × Int × Int × Int × Int × Int × Int × (Int → Int) × (Int → Int))))) (f0 : Int) (f2 : Int) (f3 : Int) (f4 : Int) (g1 : (Int → Int)) : Option (((Int × Int × Int × Int × (Int → Int)) ⊕ (Int × Int × Int × Int × Int × Int × Int × (Int → Int) × (Int → Int)))) := (zf_M_here f0 f1 g0).bind fun r1 => (if r1 = 91 then ((zf_M_opens 14 f2 f3 f0 f4 g1).bind fun r3 => (if r3.1 = 0 then (some (.inr (0, r3.2.2.2.1, r3.2.1, r3.2.2.1, r3.2.2.2.2.1, f5, f6, r3.2.2.2.2.2, g2))) else (rec r3.2.2.2.1 r3.2.1 r3.2.2.1 r3.2.2.2.2.1 r3.2.2.2.2.2))) else (some (.inl (f0, f2, f3, f4, g1))))
def zf_M_readsFactor_l0 (f1 : Int) (f5 : Int) (f6 : Int) (g0 : (Int → Int)) (g2 : (Int → Int)) : Nat → Int → Int → Int → Int → (Int → Int) → Option (((Int × Int × Int × Int × (Int → Int)) ⊕ (Int × Int × Int × Int × Int × Int × Int × (Int → Int) × (Int → Int))))
  | 0, _, _, _, _, _ => none
  | n + 1, f0, f2, f3, f4, g1 => zf_M_readsFactor_l0_b f1 f5 f6 g0 g2 (zf_M_readsFactor_l0 f1 f5 f6 g0 g2 n) f0 f2 f3 f4 g1
def zf_M_readsFactor (f0 : Int) (f1 : Int) (f2 : Int) (f3 : Int) (f4 : Int) (f5 : Int) (f6 : Int) (g0 : (Int → Int)) (g1 : (Int → Int)) (g2 : (Int → Int)) : Option (Int × Int × Int × Int × Int × Int × Int × (Int → Int) × (Int → Int)) := (zf_M_readsFactor_l0 f1 f5 f6 g0 g2 zi_fu f0 f2 f3 f4 g1).bind fun q5 => Sum.elim (fun e6 => ((zf_M_isDigit e6.1 f1 g0).bind fun r7 => (if r7 = 0 then ((zf_M_here e6.1 f1 g0).bind fun r9 => ((zf_M_factOf r9).bind fun r10 => (if r10 = (-1) then ((zf_M_wrongAt 1 e6.1 e6.2.2.2.1).bind fun r13 => (cond (zi_bo r13.1) (some (r13.1, e6.1, e6.2.1, e6.2.2.1, r13.2, f5, f6, e6.2.2.2.2, g2)) none)) else ((zf_M_notes 1 r10 f5 g2).bind fun r12 => (some (1, (zi_w (e6.1 + 1)), e6.2.1, e6.2.2.1, e6.2.2.2.1, r12.1, f6, e6.2.2.2.2, r12.2)))))) else ((zf_M_readsNumber e6.1 f6 f1 e6.2.2.2.1 g0).bind fun r15 => (if r15.1 = 0 then (some (0, r15.2.1, e6.2.1, e6.2.2.1, r15.2.2.2, f5, r15.2.2.1, e6.2.2.2.2, g2)) else ((zf_M_notes 0 r15.2.2.1 f5 g2).bind fun r17 => (some (1, r15.2.1, e6.2.1, e6.2.2.1, r15.2.2.2, r17.1, r15.2.2.1, e6.2.2.2.2, r17.2)))))))) (fun w18 => some w18) q5
theorem zd221_0 : decode zxm221.2.1 0 = .ok (.aload_n 0, 1) := by decide +kernel
theorem zd221_1 : decode zxm221.2.1 1 = .ok (.invokevirtual 182, 3) := by decide +kernel
theorem zd221_4 : decode zxm221.2.1 4 = .ok (.bipush 91, 2) := by decide +kernel
theorem zd221_6 : decode zxm221.2.1 6 = .ok (.if_icmp .ne 14, 3) := by decide +kernel
theorem zd221_9 : decode zxm221.2.1 9 = .ok (.aload_n 0, 1) := by decide +kernel
theorem zd221_10 : decode zxm221.2.1 10 = .ok (.bipush 14, 2) := by decide +kernel
theorem zd221_12 : decode zxm221.2.1 12 = .ok (.invokevirtual 216, 3) := by decide +kernel
theorem zd221_15 : decode zxm221.2.1 15 = .ok (.ifCond .ne (-15), 3) := by decide +kernel
theorem zd221_18 : decode zxm221.2.1 18 = .ok (.iconst 0, 1) := by decide +kernel
theorem zd221_19 : decode zxm221.2.1 19 = .ok (.ireturn, 1) := by decide +kernel
theorem zd221_20 : decode zxm221.2.1 20 = .ok (.aload_n 0, 1) := by decide +kernel
theorem zd221_21 : decode zxm221.2.1 21 = .ok (.invokevirtual 195, 3) := by decide +kernel
theorem zd221_24 : decode zxm221.2.1 24 = .ok (.ifCond .eq 23, 3) := by decide +kernel
theorem zd221_27 : decode zxm221.2.1 27 = .ok (.aload_n 0, 1) := by decide +kernel
theorem zd221_28 : decode zxm221.2.1 28 = .ok (.invokevirtual 219, 3) := by decide +kernel
theorem zd221_31 : decode zxm221.2.1 31 = .ok (.ifCond .ne 5, 3) := by decide +kernel
theorem zd221_34 : decode zxm221.2.1 34 = .ok (.iconst 0, 1) := by decide +kernel
theorem zd221_35 : decode zxm221.2.1 35 = .ok (.ireturn, 1) := by decide +kernel
theorem zd221_36 : decode zxm221.2.1 36 = .ok (.aload_n 0, 1) := by decide +kernel
theorem zd221_37 : decode zxm221.2.1 37 = .ok (.iconst 0, 1) := by decide +kernel
theorem zd221_38 : decode zxm221.2.1 38 = .ok (.aload_n 0, 1) := by decide +kernel
theorem zd221_39 : decode zxm221.2.1 39 = .ok (.getfield 192, 3) := by decide +kernel
theorem zd221_42 : decode zxm221.2.1 42 = .ok (.invokevirtual 212, 3) := by decide +kernel
theorem zd221_45 : decode zxm221.2.1 45 = .ok (.iconst 1, 1) := by decide +kernel
theorem zd221_46 : decode zxm221.2.1 46 = .ok (.ireturn, 1) := by decide +kernel
theorem zd221_47 : decode zxm221.2.1 47 = .ok (.aload_n 0, 1) := by decide +kernel
theorem zd221_48 : decode zxm221.2.1 48 = .ok (.invokevirtual 182, 3) := by decide +kernel
theorem zd221_51 : decode zxm221.2.1 51 = .ok (.invokestatic 222, 3) := by decide +kernel
theorem zd221_54 : decode zxm221.2.1 54 = .ok (.istore_n 1, 1) := by decide +kernel
theorem zd221_55 : decode zxm221.2.1 55 = .ok (.iload_n 1, 1) := by decide +kernel
theorem zd221_56 : decode zxm221.2.1 56 = .ok (.iconst (-1), 1) := by decide +kernel
theorem zd221_57 : decode zxm221.2.1 57 = .ok (.if_icmp .ne 13, 3) := by decide +kernel
theorem zd221_60 : decode zxm221.2.1 60 = .ok (.aload_n 0, 1) := by decide +kernel
theorem zd221_61 : decode zxm221.2.1 61 = .ok (.iconst 1, 1) := by decide +kernel
theorem zd221_62 : decode zxm221.2.1 62 = .ok (.aload_n 0, 1) := by decide +kernel
theorem zd221_63 : decode zxm221.2.1 63 = .ok (.getfield 176, 3) := by decide +kernel
theorem zd221_66 : decode zxm221.2.1 66 = .ok (.invokevirtual 189, 3) := by decide +kernel
theorem zd221_69 : decode zxm221.2.1 69 = .ok (.ireturn, 1) := by decide +kernel
theorem zd221_70 : decode zxm221.2.1 70 = .ok (.aload_n 0, 1) := by decide +kernel
theorem zd221_71 : decode zxm221.2.1 71 = .ok (.iconst 1, 1) := by decide +kernel
theorem zd221_72 : decode zxm221.2.1 72 = .ok (.iload_n 1, 1) := by decide +kernel
theorem zd221_73 : decode zxm221.2.1 73 = .ok (.invokevirtual 212, 3) := by decide +kernel
theorem zd221_76 : decode zxm221.2.1 76 = .ok (.aload_n 0, 1) := by decide +kernel
theorem zd221_77 : decode zxm221.2.1 77 = .ok (.aload_n 0, 1) := by decide +kernel
theorem zd221_78 : decode zxm221.2.1 78 = .ok (.getfield 176, 3) := by decide +kernel
theorem zd221_81 : decode zxm221.2.1 81 = .ok (.iconst 1, 1) := by decide +kernel
theorem zd221_82 : decode zxm221.2.1 82 = .ok (.iadd, 1) := by decide +kernel
theorem zd221_83 : decode zxm221.2.1 83 = .ok (.putfield 176, 3) := by decide +kernel
theorem zd221_86 : decode zxm221.2.1 86 = .ok (.iconst 1, 1) := by decide +kernel
theorem zd221_87 : decode zxm221.2.1 87 = .ok (.ireturn, 1) := by decide +kernel
theorem zt_M_readsFactor {f0 : Int} {f1 : Int} {f2 : Int} {f3 : Int} {f4 : Int} {f5 : Int} {f6 : Int} {g0 : (Int → Int)} {g1 : (Int → Int)} {g2 : (Int → Int)} {o : Int × Int × Int × Int × Int × Int × Int × (Int → Int) × (Int → Int)} (h : zf_M_readsFactor f0 f1 f2 f3 f4 f5 f6 g0 g1 g2 = some o) : zv_Fn z_TB z_cl z_KX zy_M_readsFactor zxm221 (3, 180) [.inr 0] [.inl f0, .inl f1, .inl f2, .inl f3, .inl f4, .inl f5, .inl f6] [g0, g1, g2] (some o.1) [.inl o.2.1, .inl f1, .inl o.2.2.1, .inl o.2.2.2.1, .inl o.2.2.2.2.1, .inl o.2.2.2.2.2.1, .inl o.2.2.2.2.2.2.1] [g0, o.2.2.2.2.2.2.2.1, o.2.2.2.2.2.2.2.2] := zv_meth (K := (z_KF13, z_KC13, z_KL13, z_KT13, [], [], [], none)) (FT := z_FT) (MT := z_MT) (n := 1) zxp221 (z_ks13 _ (fun _ h => List.mem_cons_of_mem _ h) _ _ _ _ (fun j r h _ => by cases h)) (fun _ _ => zs_KX_p) zyw_M_readsFactor (fun va F G h => by obtain ⟨rfl, _⟩ := h; rfl) (fun va F G h => by obtain ⟨rfl, _⟩ := h; rfl) rfl fun good va F G hB hret hvret hP => by
  obtain ⟨rfl, rfl, rfl⟩ := hP
  have l0 : ∀ (n : Nat) (f0 : Int) (f2 : Int) (f3 : Int) (f4 : Int) (f5 : Int) (f6 : Int) (g1 : (Int → Int)) (g2 : (Int → Int)) (q : ((Int × Int × Int × Int × (Int → Int)) ⊕ (Int × Int × Int × Int × Int × Int × Int × (Int → Int) × (Int → Int)))), zf_M_readsFactor_l0 f1 f5 f6 g0 g2 n f0 f2 f3 f4 g1 = some q → (Sum.elim (fun e : Int × Int × Int × Int × (Int → Int) => good 20 [.inr 0, .inr 1000] [] [.inl e.1, .inl f1, .inl e.2.1, .inl e.2.2.1, .inl e.2.2.2.1, .inl f5, .inl f6] [g0, e.2.2.2.2, g2]) (fun w : Int × Int × Int × Int × Int × Int × Int × (Int → Int) × (Int → Int) => w = o) q) → good 0 [.inr 0, .inr 1000] [] [.inl f0, .inl f1, .inl f2, .inl f3, .inl f4, .inl f5, .inl f6] [g0, g1, g2] := by
    intro n
    induction n with
    | zero => intro f0 f2 f3 f4 f5 f6 g1 g2 q h; exact absurd (show none = some q from h) (fun h => by cases h)
    | succ n ih =>
      intro f0 f2 f3 f4 f5 f6 g1 g2 q h hK
      replace h : zf_M_readsFactor_l0_b f1 f5 f6 g0 g2 (zf_M_readsFactor_l0 f1 f5 f6 g0 g2 n) f0 f2 f3 f4 g1 = some q := h
      unfold zf_M_readsFactor_l0_b at h
      refine zv_ald hB zd221_0 rfl rfl rfl ?_
      obtain ⟨r1, hr1, h⟩ := zi_bind h
      refine zv_cv hB (zv_emq (va2 := [.inr 0]) (F := [.inl f0, .inl f1, .inl f2, .inl f3, .inl f4, .inl f5, .inl f6]) (F' := [.inl f0, .inl f1, .inl f2, .inl f3, .inl f4, .inl f5, .inl f6]) (G := [g0, g1, g2]) (G' := [g0, g1, g2]) (ρ := [0, 1]) (φ := [0, 1]) (ψ := [0]) [some 0, some 1, none, none, none, none, none] [some 0, none, none] zyw_M_here zyw_M_readsFactor zye_M_readsFactor (by decide +kernel) (zt_M_here hr1) ⟨⟨_, rfl, fun _ => rfl⟩, ⟨_, rfl, fun _ => rfl⟩, trivial⟩ ⟨rfl, trivial⟩ rfl rfl rfl rfl rfl rfl rfl) zd221_1 zxt217 rfl (by decide) (by decide) rfl ?_
      refine zv_con hB zd221_4 rfl ?_
      refine zv_cne hB zd221_6 rfl (fun hc2 => ?_) (fun hc2 => ?_)
      · rw [if_neg hc2] at h
        have hq := Option.some.inj h
        subst hq
        exact hK
      · rw [if_pos hc2] at h
        refine zv_ald hB zd221_9 rfl rfl rfl ?_
        refine zv_con hB zd221_10 rfl ?_
        obtain ⟨r3, hr3, h⟩ := zi_bind h
        refine zv_cv hB (zv_emq (va2 := [.inr 0, .inl 14]) (F := [.inl f0, .inl f1, .inl f2, .inl f3, .inl f4, .inl f5, .inl f6]) (F' := [.inl r3.2.2.2.1, .inl f1, .inl r3.2.1, .inl r3.2.2.1, .inl r3.2.2.2.2.1, .inl f5, .inl f6]) (G := [g0, g1, g2]) (G' := [g0, r3.2.2.2.2.2, g2]) (ρ := [0, 2]) (φ := [2, 3, 0, 4]) (ψ := [1]) [some 2, none, some 0, some 1, some 3, none, none] [none, some 0, none] zyw_M_opens zyw_M_readsFactor zye_M_readsFactor (by decide +kernel) (zt_M_opens hr3) ⟨⟨_, rfl, fun _ => rfl⟩, ⟨_, rfl, fun _ => rfl⟩, ⟨_, rfl, fun _ => rfl⟩, ⟨_, rfl, fun _ => rfl⟩, trivial⟩ ⟨rfl, trivial⟩ rfl rfl rfl rfl rfl rfl rfl) zd221_12 zxt222 rfl (by decide) (by decide) rfl ?_
        refine zv_zne hB zd221_15 rfl (fun hc4 => ?_) (fun hc4 => ?_)
        · rw [if_neg hc4] at h
          exact ih _ _ _ _ _ _ _ _ q h hK
        · rw [if_pos hc4] at h
          refine zv_con hB zd221_18 rfl ?_
          have hw : (0, r3.2.2.2.1, r3.2.1, r3.2.2.1, r3.2.2.2.2.1, f5, f6, r3.2.2.2.2.2, g2) = o := zi_rk (Option.some.inj h) hK
          subst hw
          exact hret _ _ _ _ _ zd221_19 (by constructor <;> decide) ⟨rfl, rfl, rfl⟩
  unfold zf_M_readsFactor at h
  obtain ⟨q5, hq5, h⟩ := zi_bind h
  refine l0 _ _ _ _ _ _ _ _ _ q5 hq5 ?_
  rcases q5 with e6 | w18
  · replace h := zi_sl h
    show good 20 [.inr 0, .inr 1000] [] [.inl e6.1, .inl f1, .inl e6.2.1, .inl e6.2.2.1, .inl e6.2.2.2.1, .inl f5, .inl f6] [g0, e6.2.2.2.2, g2]
    refine zv_ald hB zd221_20 rfl rfl rfl ?_
    obtain ⟨r7, hr7, h⟩ := zi_bind h
    refine zv_cv hB (zv_emq (va2 := [.inr 0]) (F := [.inl e6.1, .inl f1, .inl e6.2.1, .inl e6.2.2.1, .inl e6.2.2.2.1, .inl f5, .inl f6]) (F' := [.inl e6.1, .inl f1, .inl e6.2.1, .inl e6.2.2.1, .inl e6.2.2.2.1, .inl f5, .inl f6]) (G := [g0, e6.2.2.2.2, g2]) (G' := [g0, e6.2.2.2.2, g2]) (ρ := [0, 1]) (φ := [0, 1]) (ψ := [0]) [some 0, some 1, none, none, none, none, none] [some 0, none, none] zyw_M_isDigit zyw_M_readsFactor zye_M_readsFactor (by decide +kernel) (zt_M_isDigit hr7) ⟨⟨_, rfl, fun _ => rfl⟩, ⟨_, rfl, fun _ => rfl⟩, trivial⟩ ⟨rfl, trivial⟩ rfl rfl rfl rfl rfl rfl rfl) zd221_21 zxt223 rfl (by decide) (by decide) rfl ?_
    refine zv_zeq hB zd221_24 rfl (fun hc8 => ?_) (fun hc8 => ?_)
    · rw [if_pos hc8] at h
      refine zv_ald hB zd221_47 rfl rfl rfl ?_
      obtain ⟨r9, hr9, h⟩ := zi_bind h
      refine zv_cv hB (zv_emq (va2 := [.inr 0]) (F := [.inl e6.1, .inl f1, .inl e6.2.1, .inl e6.2.2.1, .inl e6.2.2.2.1, .inl f5, .inl f6]) (F' := [.inl e6.1, .inl f1, .inl e6.2.1, .inl e6.2.2.1, .inl e6.2.2.2.1, .inl f5, .inl f6]) (G := [g0, e6.2.2.2.2, g2]) (G' := [g0, e6.2.2.2.2, g2]) (ρ := [0, 1]) (φ := [0, 1]) (ψ := [0]) [some 0, some 1, none, none, none, none, none] [some 0, none, none] zyw_M_here zyw_M_readsFactor zye_M_readsFactor (by decide +kernel) (zt_M_here hr9) ⟨⟨_, rfl, fun _ => rfl⟩, ⟨_, rfl, fun _ => rfl⟩, trivial⟩ ⟨rfl, trivial⟩ rfl rfl rfl rfl rfl rfl rfl) zd221_48 zxt217 rfl (by decide) (by decide) rfl ?_
      obtain ⟨r10, hr10, h⟩ := zi_bind h
      refine zv_cs hB (zv_emq (va2 := [.inl r9]) (F := [.inl e6.1, .inl f1, .inl e6.2.1, .inl e6.2.2.1, .inl e6.2.2.2.1, .inl f5, .inl f6]) (F' := [.inl e6.1, .inl f1, .inl e6.2.1, .inl e6.2.2.1, .inl e6.2.2.2.1, .inl f5, .inl f6]) (G := [g0, e6.2.2.2.2, g2]) (G' := [g0, e6.2.2.2.2, g2]) (ρ := []) (φ := []) (ψ := []) [none, none, none, none, none, none, none] [none, none, none] zyw_M_factOf zyw_M_readsFactor zye_M_readsFactor (by decide +kernel) (zt_M_factOf hr10) trivial trivial rfl rfl rfl rfl rfl rfl rfl) zd221_51 zxt226 rfl (by decide) (by decide) rfl ?_
      refine zv_ist hB zd221_54 rfl rfl rfl ?_
      refine zv_ild hB zd221_55 rfl rfl ?_
      refine zv_con hB zd221_56 rfl ?_
      refine zv_cne hB zd221_57 rfl (fun hc11 => ?_) (fun hc11 => ?_)
      · rw [if_neg hc11] at h
        refine zv_ald hB zd221_70 rfl rfl rfl ?_
        refine zv_con hB zd221_71 rfl ?_
        refine zv_ild hB zd221_72 rfl rfl ?_
        obtain ⟨r12, hr12, h⟩ := zi_bind h
        refine zv_cv hB (zv_emq (va2 := [.inr 0, .inl 1, .inl r10]) (F := [.inl e6.1, .inl f1, .inl e6.2.1, .inl e6.2.2.1, .inl e6.2.2.2.1, .inl f5, .inl f6]) (F' := [.inl e6.1, .inl f1, .inl e6.2.1, .inl e6.2.2.1, .inl e6.2.2.2.1, .inl r12.1, .inl f6]) (G := [g0, e6.2.2.2.2, g2]) (G' := [g0, e6.2.2.2.2, r12.2]) (ρ := [0, 3]) (φ := [5]) (ψ := [2]) [none, none, none, none, none, some 0, none] [none, none, some 0] zyw_M_notes zyw_M_readsFactor zye_M_readsFactor (by decide +kernel) (zt_M_notes hr12) ⟨⟨_, rfl, fun _ => rfl⟩, trivial⟩ ⟨rfl, trivial⟩ rfl rfl rfl rfl rfl rfl rfl) zd221_73 zxt225 rfl (by decide) (by decide) rfl ?_
        refine zv_ald hB zd221_76 rfl rfl rfl ?_
        refine zv_ald hB zd221_77 rfl rfl rfl ?_
        refine zv_getf hB zd221_78 rfl rfl (fun _ _ => ?_)
        refine zv_con hB zd221_81 rfl ?_
        refine zv_addw hB zd221_82 ?_
        refine zv_putf hB zd221_83 rfl rfl (fun h => by cases h) rfl ?_
        refine zv_con hB zd221_86 rfl ?_
        have hw := Option.some.inj h
        subst hw
        exact hret _ _ _ _ _ zd221_87 (by constructor <;> decide) ⟨rfl, rfl, rfl⟩
      · rw [if_pos hc11] at h
        refine zv_ald hB zd221_60 rfl rfl rfl ?_
        refine zv_con hB zd221_61 rfl ?_
        refine zv_ald hB zd221_62 rfl rfl rfl ?_
        refine zv_getf hB zd221_63 rfl rfl (fun _ _ => ?_)
        obtain ⟨r13, hr13, h⟩ := zi_bind h
        refine zv_cv hB (zv_emq (va2 := [.inr 0, .inl 1, .inl e6.1]) (F := [.inl e6.1, .inl f1, .inl e6.2.1, .inl e6.2.2.1, .inl e6.2.2.2.1, .inl f5, .inl f6]) (F' := [.inl e6.1, .inl f1, .inl e6.2.1, .inl e6.2.2.1, .inl r13.2, .inl f5, .inl f6]) (G := [g0, e6.2.2.2.2, g2]) (G' := [g0, e6.2.2.2.2, g2]) (ρ := [0]) (φ := [4]) (ψ := []) [none, none, none, none, some 0, none, none] [none, none, none] zyw_M_wrongAt zyw_M_readsFactor zye_M_readsFactor (by decide +kernel) (zt_M_wrongAt hr13) ⟨⟨_, rfl, fun _ => rfl⟩, trivial⟩ trivial rfl rfl rfl rfl rfl rfl rfl) zd221_66 zxt219 rfl (by decide) (by decide) rfl ?_
        obtain ⟨c14, h⟩ := zi_if h
        have hw := Option.some.inj h
        subst hw
        exact hret _ _ _ _ _ zd221_69 (zi_bo_ok c14) ⟨rfl, rfl, rfl⟩
    · rw [if_neg hc8] at h
      refine zv_ald hB zd221_27 rfl rfl rfl ?_
      obtain ⟨r15, hr15, h⟩ := zi_bind h
      refine zv_cv hB (zv_emq (va2 := [.inr 0]) (F := [.inl e6.1, .inl f1, .inl e6.2.1, .inl e6.2.2.1, .inl e6.2.2.2.1, .inl f5, .inl f6]) (F' := [.inl r15.2.1, .inl f1, .inl e6.2.1, .inl e6.2.2.1, .inl r15.2.2.2, .inl f5, .inl r15.2.2.1]) (G := [g0, e6.2.2.2.2, g2]) (G' := [g0, e6.2.2.2.2, g2]) (ρ := [0, 1]) (φ := [0, 6, 1, 4]) (ψ := [0]) [some 0, some 2, none, none, some 3, none, some 1] [some 0, none, none] zyw_M_readsNumber zyw_M_readsFactor zye_M_readsFactor (by decide +kernel) (zt_M_readsNumber hr15) ⟨⟨_, rfl, fun _ => rfl⟩, ⟨_, rfl, fun _ => rfl⟩, ⟨_, rfl, fun _ => rfl⟩, ⟨_, rfl, fun _ => rfl⟩, trivial⟩ ⟨rfl, trivial⟩ rfl rfl rfl rfl rfl rfl rfl) zd221_28 zxt224 rfl (by decide) (by decide) rfl ?_
      refine zv_zne hB zd221_31 rfl (fun hc16 => ?_) (fun hc16 => ?_)
      · rw [if_neg hc16] at h
        refine zv_ald hB zd221_36 rfl rfl rfl ?_
        refine zv_con hB zd221_37 rfl ?_
        refine zv_ald hB zd221_38 rfl rfl rfl ?_
        refine zv_getf hB zd221_39 rfl rfl (fun _ _ => ?_)
        obtain ⟨r17, hr17, h⟩ := zi_bind h
        refine zv_cv hB (zv_emq (va2 := [.inr 0, .inl 0, .inl r15.2.2.1]) (F := [.inl r15.2.1, .inl f1, .inl e6.2.1, .inl e6.2.2.1, .inl r15.2.2.2, .inl f5, .inl r15.2.2.1]) (F' := [.inl r15.2.1, .inl f1, .inl e6.2.1, .inl e6.2.2.1, .inl r15.2.2.2, .inl r17.1, .inl r15.2.2.1]) (G := [g0, e6.2.2.2.2, g2]) (G' := [g0, e6.2.2.2.2, r17.2]) (ρ := [0, 3]) (φ := [5]) (ψ := [2]) [none, none, none, none, none, some 0, none] [none, none, some 0] zyw_M_notes zyw_M_readsFactor zye_M_readsFactor (by decide +kernel) (zt_M_notes hr17) ⟨⟨_, rfl, fun _ => rfl⟩, trivial⟩ ⟨rfl, trivial⟩ rfl rfl rfl rfl rfl rfl rfl) zd221_42 zxt225 rfl (by decide) (by decide) rfl ?_
        refine zv_con hB zd221_45 rfl ?_
        have hw := Option.some.inj h
        subst hw
        exact hret _ _ _ _ _ zd221_46 (by constructor <;> decide) ⟨rfl, rfl, rfl⟩
      · rw [if_pos hc16] at h
        refine zv_con hB zd221_34 rfl ?_
        have hw := Option.some.inj h
        subst hw
        exact hret _ _ _ _ _ zd221_35 (by constructor <;> decide) ⟨rfl, rfl, rfl⟩
  · exact Option.some.inj h
/-! M_sumSign (I)I -/
-- names: 
-- fields: ; arrays: ; out: [('ret', None)]
abbrev zy_M_sumSign : zNL := (0, [], [], [], [])
theorem zyw_M_sumSign : zv_wf zy_M_sumSign = true := by decide +kernel
theorem zye_M_sumSign : zv_ek2 zy_M_sumSign = true := by decide +kernel
def zf_M_sumSign (x0 : Int) : Option (Int) := if x0 = 43 then (some 2) else (if x0 = 45 then (some 3) else (if x0 = 42 then (some 4) else (if x0 = 47 then (some 5) else (if x0 = 37 then (some 6) else (some (-1))))))
theorem zd227_0 : decode zxm227.2.1 0 = .ok (.iload_n 0, 1) := by decide +kernel
theorem zd227_1 : decode zxm227.2.1 1 = .ok (.bipush 43, 2) := by decide +kernel
theorem zd227_3 : decode zxm227.2.1 3 = .ok (.if_icmp .ne 7, 3) := by decide +kernel
theorem zd227_6 : decode zxm227.2.1 6 = .ok (.iconst 2, 1) := by decide +kernel
theorem zd227_7 : decode zxm227.2.1 7 = .ok (.goto 45, 3) := by decide +kernel
theorem zd227_10 : decode zxm227.2.1 10 = .ok (.iload_n 0, 1) := by decide +kernel
theorem zd227_11 : decode zxm227.2.1 11 = .ok (.bipush 45, 2) := by decide +kernel
theorem zd227_13 : decode zxm227.2.1 13 = .ok (.if_icmp .ne 7, 3) := by decide +kernel
theorem zd227_16 : decode zxm227.2.1 16 = .ok (.iconst 3, 1) := by decide +kernel
theorem zd227_17 : decode zxm227.2.1 17 = .ok (.goto 35, 3) := by decide +kernel
theorem zd227_20 : decode zxm227.2.1 20 = .ok (.iload_n 0, 1) := by decide +kernel
theorem zd227_21 : decode zxm227.2.1 21 = .ok (.bipush 42, 2) := by decide +kernel
theorem zd227_23 : decode zxm227.2.1 23 = .ok (.if_icmp .ne 7, 3) := by decide +kernel
theorem zd227_26 : decode zxm227.2.1 26 = .ok (.iconst 4, 1) := by decide +kernel
theorem zd227_27 : decode zxm227.2.1 27 = .ok (.goto 25, 3) := by decide +kernel
theorem zd227_30 : decode zxm227.2.1 30 = .ok (.iload_n 0, 1) := by decide +kernel
theorem zd227_31 : decode zxm227.2.1 31 = .ok (.bipush 47, 2) := by decide +kernel
theorem zd227_33 : decode zxm227.2.1 33 = .ok (.if_icmp .ne 7, 3) := by decide +kernel
theorem zd227_36 : decode zxm227.2.1 36 = .ok (.iconst 5, 1) := by decide +kernel
theorem zd227_37 : decode zxm227.2.1 37 = .ok (.goto 15, 3) := by decide +kernel
theorem zd227_40 : decode zxm227.2.1 40 = .ok (.iload_n 0, 1) := by decide +kernel
theorem zd227_41 : decode zxm227.2.1 41 = .ok (.bipush 37, 2) := by decide +kernel
theorem zd227_43 : decode zxm227.2.1 43 = .ok (.if_icmp .ne 8, 3) := by decide +kernel
theorem zd227_46 : decode zxm227.2.1 46 = .ok (.bipush 6, 2) := by decide +kernel
theorem zd227_48 : decode zxm227.2.1 48 = .ok (.goto 4, 3) := by decide +kernel
theorem zd227_51 : decode zxm227.2.1 51 = .ok (.iconst (-1), 1) := by decide +kernel
theorem zd227_52 : decode zxm227.2.1 52 = .ok (.ireturn, 1) := by decide +kernel
theorem zt_M_sumSign {x0 : Int} {o : Int} (h : zf_M_sumSign x0 = some o) : zv_Fn z_TB z_cl z_KX zy_M_sumSign zxm227 (0, 0) [.inl x0] [] [] (some o) [] [] := zv_meth (K := (z_KF13, z_KC13, z_KL13, z_KT13, [], [], [], none)) (FT := z_FT) (MT := z_MT) (n := 1) zxp227 (z_ks13 _ (fun _ h => List.mem_cons_of_mem _ h) _ _ _ _ (fun j r h _ => by cases h)) (fun _ _ => zs_KX_p) zyw_M_sumSign (fun va F G h => by obtain ⟨rfl, _⟩ := h; rfl) (fun va F G h => by obtain ⟨rfl, _⟩ := h; rfl) rfl fun good va F G hB hret hvret hP => by
  obtain ⟨rfl, rfl, rfl⟩ := hP
  unfold zf_M_sumSign at h
  refine zv_ild hB zd227_0 rfl rfl ?_
  refine zv_con hB zd227_1 rfl ?_
  refine zv_cne hB zd227_3 rfl (fun hc1 => ?_) (fun hc1 => ?_)
  · rw [if_neg hc1] at h
    refine zv_ild hB zd227_10 rfl rfl ?_
    refine zv_con hB zd227_11 rfl ?_
    refine zv_cne hB zd227_13 rfl (fun hc2 => ?_) (fun hc2 => ?_)
    · rw [if_neg hc2] at h
      refine zv_ild hB zd227_20 rfl rfl ?_
      refine zv_con hB zd227_21 rfl ?_
      refine zv_cne hB zd227_23 rfl (fun hc3 => ?_) (fun hc3 => ?_)
      · rw [if_neg hc3] at h
        refine zv_ild hB zd227_30 rfl rfl ?_
        refine zv_con hB zd227_31 rfl ?_
        refine zv_cne hB zd227_33 rfl (fun hc4 => ?_) (fun hc4 => ?_)
        · rw [if_neg hc4] at h
          refine zv_ild hB zd227_40 rfl rfl ?_
          refine zv_con hB zd227_41 rfl ?_
          refine zv_cne hB zd227_43 rfl (fun hc5 => ?_) (fun hc5 => ?_)
          · rw [if_neg hc5] at h
            refine zv_con hB zd227_51 rfl ?_
            have hw := Option.some.inj h
            subst hw
            exact hret _ _ _ _ _ zd227_52 (by trivial) ⟨rfl, rfl, rfl⟩
          · rw [if_pos hc5] at h
            refine zv_con hB zd227_46 rfl ?_
            refine zv_goto hB zd227_48 rfl ?_
            have hw := Option.some.inj h
            subst hw
            exact hret _ _ _ _ _ zd227_52 (by trivial) ⟨rfl, rfl, rfl⟩
        · rw [if_pos hc4] at h
          refine zv_con hB zd227_36 rfl ?_
          refine zv_goto hB zd227_37 rfl ?_
          have hw := Option.some.inj h
          subst hw
          exact hret _ _ _ _ _ zd227_52 (by trivial) ⟨rfl, rfl, rfl⟩
      · rw [if_pos hc3] at h
        refine zv_con hB zd227_26 rfl ?_
        refine zv_goto hB zd227_27 rfl ?_
        have hw := Option.some.inj h
        subst hw
        exact hret _ _ _ _ _ zd227_52 (by trivial) ⟨rfl, rfl, rfl⟩
    · rw [if_pos hc2] at h
      refine zv_con hB zd227_16 rfl ?_
      refine zv_goto hB zd227_17 rfl ?_
      have hw := Option.some.inj h
      subst hw
      exact hret _ _ _ _ _ zd227_52 (by trivial) ⟨rfl, rfl, rfl⟩
  · rw [if_pos hc1] at h
    refine zv_con hB zd227_6 rfl ?_
    refine zv_goto hB zd227_7 rfl ?_
    have hw := Option.some.inj h
    subst hw
    exact hret _ _ _ _ _ zd227_52 (by trivial) ⟨rfl, rfl, rfl⟩
/-! M_hasOpenSum (I)Z -/
-- names: 0 StarTalesModel('arg', 0), 1 (0, 220)(0, 12, 15)
-- fields: f0 = 0.waiting_; arrays: g0 = 1; out: [('ret', None)]
abbrev zy_M_hasOpenSum : zNL := (2, [(0, 12)], [(0, 12, 10, 0)], [(0, 12, 15, 1)], [(1, 0, 220, 0)])
theorem zyw_M_hasOpenSum : zv_wf zy_M_hasOpenSum = true := by decide +kernel
theorem zye_M_hasOpenSum : zv_ek2 zy_M_hasOpenSum = true := by decide +kernel
def zf_M_hasOpenSum_l0_b (f0 : Int) (g0 : (Int → Int)) (rec : Int → Option (((Unit) ⊕ (Int)))) (x2 : Int) : Option (((Unit) ⊕ (Int))) := if x2 < f0 then (cond (zi_ix x2 220) (if (zi_div (g0 x2) 1048576) = 14 then (some (.inr 1)) else (rec (zi_w (x2 + 1)))) none) else (some (.inl ()))
def zf_M_hasOpenSum_l0 (f0 : Int) (g0 : (Int → Int)) : Nat → Int → Option (((Unit) ⊕ (Int)))
  | 0, _ => none
  | n + 1, x2 => zf_M_hasOpenSum_l0_b f0 g0 (zf_M_hasOpenSum_l0 f0 g0 n) x2
def zf_M_hasOpenSum (x1 : Int) (f0 : Int) (g0 : (Int → Int)) : Option (Int) := (zf_M_hasOpenSum_l0 f0 g0 zi_fu x1).bind fun q4 => Sum.elim (fun e5 => (some 0)) (fun w6 => some w6) q4
theorem zd230_0 : decode zxm230.2.1 0 = .ok (.iload_n 1, 1) := by decide +kernel
theorem zd230_1 : decode zxm230.2.1 1 = .ok (.istore_n 2, 1) := by decide +kernel
theorem zd230_2 : decode zxm230.2.1 2 = .ok (.iload_n 2, 1) := by decide +kernel
theorem zd230_3 : decode zxm230.2.1 3 = .ok (.aload_n 0, 1) := by decide +kernel
theorem zd230_4 : decode zxm230.2.1 4 = .ok (.getfield 206, 3) := by decide +kernel
theorem zd230_7 : decode zxm230.2.1 7 = .ok (.if_icmp .ge 25, 3) := by decide +kernel
theorem zd230_10 : decode zxm230.2.1 10 = .ok (.aload_n 0, 1) := by decide +kernel
theorem zd230_11 : decode zxm230.2.1 11 = .ok (.getfield 26, 3) := by decide +kernel
theorem zd230_14 : decode zxm230.2.1 14 = .ok (.iload_n 2, 1) := by decide +kernel
theorem zd230_15 : decode zxm230.2.1 15 = .ok (.iaload, 1) := by decide +kernel
theorem zd230_16 : decode zxm230.2.1 16 = .ok (.ldc 202, 2) := by decide +kernel
theorem zd230_18 : decode zxm230.2.1 18 = .ok (.idiv, 1) := by decide +kernel
theorem zd230_19 : decode zxm230.2.1 19 = .ok (.bipush 14, 2) := by decide +kernel
theorem zd230_21 : decode zxm230.2.1 21 = .ok (.if_icmp .ne 5, 3) := by decide +kernel
theorem zd230_24 : decode zxm230.2.1 24 = .ok (.iconst 1, 1) := by decide +kernel
theorem zd230_25 : decode zxm230.2.1 25 = .ok (.ireturn, 1) := by decide +kernel
theorem zd230_26 : decode zxm230.2.1 26 = .ok (.iinc 2 1, 3) := by decide +kernel
theorem zd230_29 : decode zxm230.2.1 29 = .ok (.goto (-27), 3) := by decide +kernel
theorem zd230_32 : decode zxm230.2.1 32 = .ok (.iconst 0, 1) := by decide +kernel
theorem zd230_33 : decode zxm230.2.1 33 = .ok (.ireturn, 1) := by decide +kernel
theorem zt_M_hasOpenSum {x1 : Int} {f0 : Int} {g0 : (Int → Int)} {o : Int} (h : zf_M_hasOpenSum x1 f0 g0 = some o) : zv_Fn z_TB z_cl z_KX zy_M_hasOpenSum zxm230 (0, 0) [.inr 0, .inl x1] [.inl f0] [g0] (some o) [.inl f0] [g0] := zv_meth (K := (z_KF13, z_KC13, z_KL13, z_KT13, [], [], [], none)) (FT := z_FT) (MT := z_MT) (n := 2) zxp230 (z_ks13 _ (fun _ h => List.mem_cons_of_mem _ h) _ _ _ _ (fun j r h _ => by cases h)) (fun _ _ => zs_KX_p) zyw_M_hasOpenSum (fun va F G h => by obtain ⟨rfl, _⟩ := h; rfl) (fun va F G h => by obtain ⟨rfl, _⟩ := h; rfl) rfl fun good va F G hB hret hvret hP => by
  obtain ⟨rfl, rfl, rfl⟩ := hP
  have l0 : ∀ (n : Nat) (x2 : Int) (q : ((Unit) ⊕ (Int))), zf_M_hasOpenSum_l0 f0 g0 n x2 = some q → (Sum.elim (fun e : Unit => good 32 [.inr 1000, .inr 1000, .inr 1000] [] [.inl f0] [g0]) (fun w : Int => w = o) q) → good 2 [.inr 0, .inr 1000, .inl x2] [] [.inl f0] [g0] := by
    intro n
    induction n with
    | zero => intro x2 q h; exact absurd (show none = some q from h) (fun h => by cases h)
    | succ n ih =>
      intro x2 q h hK
      replace h : zf_M_hasOpenSum_l0_b f0 g0 (zf_M_hasOpenSum_l0 f0 g0 n) x2 = some q := h
      unfold zf_M_hasOpenSum_l0_b at h
      refine zv_ild hB zd230_2 rfl rfl ?_
      refine zv_ald hB zd230_3 rfl rfl rfl ?_
      refine zv_getf hB zd230_4 rfl rfl (fun _ _ => ?_)
      refine zv_cge hB zd230_7 rfl (fun hc1 => ?_) (fun hc1 => ?_)
      · rw [if_neg (Int.not_lt.mpr hc1)] at h
        have hq := Option.some.inj h
        subst hq
        refine zv_wk hB (L' := [.inr 1000, .inr 1000, .inr 1000]) (F' := [.inl f0]) ⟨fun (h : zv_is (.inr 1000)) => (Nat.lt_irrefl 1000 h).elim, fun (h : zv_is (.inr 1000)) => (Nat.lt_irrefl 1000 h).elim, fun (h : zv_is (.inr 1000)) => (Nat.lt_irrefl 1000 h).elim, trivial⟩ ⟨fun _ => rfl, trivial⟩ ?_
        exact hK
      · rw [if_pos hc1] at h
        refine zv_ald hB zd230_10 rfl rfl rfl ?_
        refine zv_getr hB zd230_11 rfl ?_
        refine zv_ild hB zd230_14 rfl rfl ?_
        obtain ⟨c2, h⟩ := zi_if h
        refine zv_iald hB zd230_15 rfl rfl (zi_ix_ok c2).1 (zi_ix_ok c2).2 (fun _ _ => ?_)
        refine zv_con (n := 1048576) hB zd230_16 (by decide +kernel) ?_
        refine zv_divw hB zd230_18 (by decide) ?_
        refine zv_con hB zd230_19 rfl ?_
        refine zv_cne hB zd230_21 rfl (fun hc3 => ?_) (fun hc3 => ?_)
        · rw [if_neg hc3] at h
          refine zv_iincw hB zd230_26 rfl rfl ?_
          refine zv_goto hB zd230_29 rfl ?_
          exact ih _ q h hK
        · rw [if_pos hc3] at h
          refine zv_con hB zd230_24 rfl ?_
          have hw : 1 = o := zi_rk (Option.some.inj h) hK
          subst hw
          exact hret _ _ _ _ _ zd230_25 (by constructor <;> decide) ⟨rfl, rfl, rfl⟩
  unfold zf_M_hasOpenSum at h
  refine zv_ild hB zd230_0 rfl rfl ?_
  refine zv_ist hB zd230_1 rfl rfl rfl ?_
  obtain ⟨q4, hq4, h⟩ := zi_bind h
  refine zv_wk hB (L' := [.inr 0, .inr 1000, .inl x1]) (F' := [.inl f0]) ⟨fun _ => rfl, fun (h : zv_is (.inr 1000)) => (Nat.lt_irrefl 1000 h).elim, fun _ => rfl, trivial⟩ ⟨fun _ => rfl, trivial⟩ ?_
  refine l0 _ _ q4 hq4 ?_
  rcases q4 with e5 | w6
  · replace h := zi_sl h
    show good 32 [.inr 1000, .inr 1000, .inr 1000] [] [.inl f0] [g0]
    refine zv_con hB zd230_32 rfl ?_
    have hw := Option.some.inj h
    subst hw
    exact hret _ _ _ _ _ zd230_33 (by constructor <;> decide) ⟨rfl, rfl, rfl⟩
  · exact Option.some.inj h
/-! M_waitTop ()I -/
-- names: 0 StarTalesModel('arg', 0), 1 (0, 220)(0, 12, 15)
-- fields: f0 = 0.waiting_; arrays: g0 = 1; out: [('ret', None)]
abbrev zy_M_waitTop : zNL := (2, [(0, 12)], [(0, 12, 10, 0)], [(0, 12, 15, 1)], [(1, 0, 220, 0)])
theorem zyw_M_waitTop : zv_wf zy_M_waitTop = true := by decide +kernel
theorem zye_M_waitTop : zv_ek2 zy_M_waitTop = true := by decide +kernel
def zf_M_waitTop (f0 : Int) (g0 : (Int → Int)) : Option (Int) := if f0 = 0 then (some (-1)) else (cond (zi_ix (zi_w (f0 - 1)) 220) (some (zi_div (g0 (zi_w (f0 - 1))) 1048576)) none)
theorem zd229_0 : decode zxm229.2.1 0 = .ok (.aload_n 0, 1) := by decide +kernel
theorem zd229_1 : decode zxm229.2.1 1 = .ok (.getfield 206, 3) := by decide +kernel
theorem zd229_4 : decode zxm229.2.1 4 = .ok (.ifCond .ne 7, 3) := by decide +kernel
theorem zd229_7 : decode zxm229.2.1 7 = .ok (.iconst (-1), 1) := by decide +kernel
theorem zd229_8 : decode zxm229.2.1 8 = .ok (.goto 17, 3) := by decide +kernel
theorem zd229_11 : decode zxm229.2.1 11 = .ok (.aload_n 0, 1) := by decide +kernel
theorem zd229_12 : decode zxm229.2.1 12 = .ok (.getfield 26, 3) := by decide +kernel
theorem zd229_15 : decode zxm229.2.1 15 = .ok (.aload_n 0, 1) := by decide +kernel
theorem zd229_16 : decode zxm229.2.1 16 = .ok (.getfield 206, 3) := by decide +kernel
theorem zd229_19 : decode zxm229.2.1 19 = .ok (.iconst 1, 1) := by decide +kernel
theorem zd229_20 : decode zxm229.2.1 20 = .ok (.isub, 1) := by decide +kernel
theorem zd229_21 : decode zxm229.2.1 21 = .ok (.iaload, 1) := by decide +kernel
theorem zd229_22 : decode zxm229.2.1 22 = .ok (.ldc 202, 2) := by decide +kernel
theorem zd229_24 : decode zxm229.2.1 24 = .ok (.idiv, 1) := by decide +kernel
theorem zd229_25 : decode zxm229.2.1 25 = .ok (.ireturn, 1) := by decide +kernel
theorem zt_M_waitTop {f0 : Int} {g0 : (Int → Int)} {o : Int} (h : zf_M_waitTop f0 g0 = some o) : zv_Fn z_TB z_cl z_KX zy_M_waitTop zxm229 (0, 0) [.inr 0] [.inl f0] [g0] (some o) [.inl f0] [g0] := zv_meth (K := (z_KF13, z_KC13, z_KL13, z_KT13, [], [], [], none)) (FT := z_FT) (MT := z_MT) (n := 1) zxp229 (z_ks13 _ (fun _ h => List.mem_cons_of_mem _ h) _ _ _ _ (fun j r h _ => by cases h)) (fun _ _ => zs_KX_p) zyw_M_waitTop (fun va F G h => by obtain ⟨rfl, _⟩ := h; rfl) (fun va F G h => by obtain ⟨rfl, _⟩ := h; rfl) rfl fun good va F G hB hret hvret hP => by
  obtain ⟨rfl, rfl, rfl⟩ := hP
  unfold zf_M_waitTop at h
  refine zv_ald hB zd229_0 rfl rfl rfl ?_
  refine zv_getf hB zd229_1 rfl rfl (fun _ _ => ?_)
  refine zv_zne hB zd229_4 rfl (fun hc1 => ?_) (fun hc1 => ?_)
  · rw [if_neg hc1] at h
    refine zv_ald hB zd229_11 rfl rfl rfl ?_
    refine zv_getr hB zd229_12 rfl ?_
    refine zv_ald hB zd229_15 rfl rfl rfl ?_
    refine zv_getf hB zd229_16 rfl rfl (fun _ _ => ?_)
    refine zv_con hB zd229_19 rfl ?_
    refine zv_subw hB zd229_20 ?_
    obtain ⟨c2, h⟩ := zi_if h
    refine zv_iald hB zd229_21 rfl rfl (zi_ix_ok c2).1 (zi_ix_ok c2).2 (fun _ _ => ?_)
    refine zv_con (n := 1048576) hB zd229_22 (by decide +kernel) ?_
    refine zv_divw hB zd229_24 (by decide) ?_
    have hw := Option.some.inj h
    subst hw
    exact hret _ _ _ _ _ zd229_25 (by trivial) ⟨rfl, rfl, rfl⟩
  · rw [if_pos hc1] at h
    refine zv_con hB zd229_7 rfl ?_
    refine zv_goto hB zd229_8 rfl ?_
    have hw := Option.some.inj h
    subst hw
    exact hret _ _ _ _ _ zd229_25 (by trivial) ⟨rfl, rfl, rfl⟩
end
section
/-! Methods as functions, and that they do what these do. -/
/-! M_closesSums (Z)V -/
-- names: 0 StarTalesModel('arg', 0), 1 (0, 220)(0, 12, 15), 2 (0, 220)(0, 12, 14)
-- fields: f0 = 0.waiting_, f1 = 0.codeMany_; arrays: g0 = 1, g1 = 2; out: [('f', 0), ('f', 1), ('g', 1)]
abbrev zy_M_closesSums : zNL := (3, [(0, 12)], [(0, 12, 10, 0), (0, 12, 9, 1)], [(0, 12, 15, 1), (0, 12, 14, 2)], [(1, 0, 220, 0), (2, 0, 220, 1)])
theorem zyw_M_closesSums : zv_wf zy_M_closesSums = true := by decide +kernel
theorem zye_M_closesSums : zv_ek2 zy_M_closesSums = true := by decide +kernel
def zf_M_closesSums_l0_b (x1 : Int) (g0 : (Int → Int)) (rec : Int → Int → (Int → Int) → Option (Int × Int × (Int → Int))) (f0 : Int) (f1 : Int) (g1 : (Int → Int)) : Option (Int × Int × (Int → Int)) := (zf_M_waitTop f0 g0).bind fun r1 => (if r1 < 4 then (if x1 = 0 then (some (f0, f1, g1)) else ((zf_M_waitTop f0 g0).bind fun r4 => (if r4 = 2 then ((zf_M_waitTop f0 g0).bind fun r6 => ((zf_M_notes r6 0 f1 g1).bind fun r7 => (rec (zi_w (f0 - 1)) r7.1 r7.2))) else ((zf_M_waitTop f0 g0).bind fun r8 => (if r8 = 3 then ((zf_M_waitTop f0 g0).bind fun r10 => ((zf_M_notes r10 0 f1 g1).bind fun r11 => (rec (zi_w (f0 - 1)) r11.1 r11.2))) else (some (f0, f1, g1))))))) else ((zf_M_waitTop f0 g0).bind fun r12 => (if 6 < r12 then (if x1 = 0 then (some (f0, f1, g1)) else ((zf_M_waitTop f0 g0).bind fun r17 => (if r17 = 2 then ((zf_M_waitTop f0 g0).bind fun r19 => ((zf_M_notes r19 0 f1 g1).bind fun r20 => (rec (zi_w (f0 - 1)) r20.1 r20.2))) else ((zf_M_waitTop f0 g0).bind fun r21 => (if r21 = 3 then ((zf_M_waitTop f0 g0).bind fun r23 => ((zf_M_notes r23 0 f1 g1).bind fun r24 => (rec (zi_w (f0 - 1)) r24.1 r24.2))) else (some (f0, f1, g1))))))) else ((zf_M_waitTop f0 g0).bind fun r14 => ((zf_M_notes r14 0 f1 g1).bind fun r15 => (rec (zi_w (f0 - 1)) r15.1 r15.2))))))
def zf_M_closesSums_l0 (x1 : Int) (g0 : (Int → Int)) : Nat → Int → Int → (Int → Int) → Option (Int × Int × (Int → Int))
  | 0, _, _, _ => none
  | n + 1, f0, f1, g1 => zf_M_closesSums_l0_b x1 g0 (zf_M_closesSums_l0 x1 g0 n) f0 f1 g1
def zf_M_closesSums (x1 : Int) (f0 : Int) (f1 : Int) (g0 : (Int → Int)) (g1 : (Int → Int)) : Option (Int × Int × (Int → Int)) := (zf_M_closesSums_l0 x1 g0 zi_fu f0 f1 g1).bind fun q25 => (some (q25.1, q25.2.1, q25.2.2))
theorem zd228_0 : decode zxm228.2.1 0 = .ok (.aload_n 0, 1) := by decide +kernel
theorem zd228_1 : decode zxm228.2.1 1 = .ok (.invokevirtual 209, 3) := by decide +kernel
theorem zd228_4 : decode zxm228.2.1 4 = .ok (.iconst 4, 1) := by decide +kernel
theorem zd228_5 : decode zxm228.2.1 5 = .ok (.if_icmp .lt 12, 3) := by decide +kernel
theorem zd228_8 : decode zxm228.2.1 8 = .ok (.aload_n 0, 1) := by decide +kernel
theorem zd228_9 : decode zxm228.2.1 9 = .ok (.invokevirtual 209, 3) := by decide +kernel
theorem zd228_12 : decode zxm228.2.1 12 = .ok (.bipush 6, 2) := by decide +kernel
theorem zd228_14 : decode zxm228.2.1 14 = .ok (.if_icmp .le 23, 3) := by decide +kernel
theorem zd228_17 : decode zxm228.2.1 17 = .ok (.iload_n 1, 1) := by decide +kernel
theorem zd228_18 : decode zxm228.2.1 18 = .ok (.ifCond .eq 41, 3) := by decide +kernel
theorem zd228_21 : decode zxm228.2.1 21 = .ok (.aload_n 0, 1) := by decide +kernel
theorem zd228_22 : decode zxm228.2.1 22 = .ok (.invokevirtual 209, 3) := by decide +kernel
theorem zd228_25 : decode zxm228.2.1 25 = .ok (.iconst 2, 1) := by decide +kernel
theorem zd228_26 : decode zxm228.2.1 26 = .ok (.if_icmp .eq 11, 3) := by decide +kernel
theorem zd228_29 : decode zxm228.2.1 29 = .ok (.aload_n 0, 1) := by decide +kernel
theorem zd228_30 : decode zxm228.2.1 30 = .ok (.invokevirtual 209, 3) := by decide +kernel
theorem zd228_33 : decode zxm228.2.1 33 = .ok (.iconst 3, 1) := by decide +kernel
theorem zd228_34 : decode zxm228.2.1 34 = .ok (.if_icmp .ne 25, 3) := by decide +kernel
theorem zd228_37 : decode zxm228.2.1 37 = .ok (.aload_n 0, 1) := by decide +kernel
theorem zd228_38 : decode zxm228.2.1 38 = .ok (.aload_n 0, 1) := by decide +kernel
theorem zd228_39 : decode zxm228.2.1 39 = .ok (.invokevirtual 209, 3) := by decide +kernel
theorem zd228_42 : decode zxm228.2.1 42 = .ok (.iconst 0, 1) := by decide +kernel
theorem zd228_43 : decode zxm228.2.1 43 = .ok (.invokevirtual 212, 3) := by decide +kernel
theorem zd228_46 : decode zxm228.2.1 46 = .ok (.aload_n 0, 1) := by decide +kernel
theorem zd228_47 : decode zxm228.2.1 47 = .ok (.aload_n 0, 1) := by decide +kernel
theorem zd228_48 : decode zxm228.2.1 48 = .ok (.getfield 206, 3) := by decide +kernel
theorem zd228_51 : decode zxm228.2.1 51 = .ok (.iconst 1, 1) := by decide +kernel
theorem zd228_52 : decode zxm228.2.1 52 = .ok (.isub, 1) := by decide +kernel
theorem zd228_53 : decode zxm228.2.1 53 = .ok (.putfield 206, 3) := by decide +kernel
theorem zd228_56 : decode zxm228.2.1 56 = .ok (.goto (-56), 3) := by decide +kernel
theorem zd228_59 : decode zxm228.2.1 59 = .ok (.return_, 1) := by decide +kernel
theorem zt_M_closesSums {x1 : Int} {f0 : Int} {f1 : Int} {g0 : (Int → Int)} {g1 : (Int → Int)} {o : Int × Int × (Int → Int)} (h : zf_M_closesSums x1 f0 f1 g0 g1 = some o) : zv_Fn z_TB z_cl z_KX zy_M_closesSums zxm228 (1, 60) [.inr 0, .inl x1] [.inl f0, .inl f1] [g0, g1] none [.inl o.1, .inl o.2.1] [g0, o.2.2] := zv_meth (K := (z_KF13, z_KC13, z_KL13, z_KT13, [], [], [], none)) (FT := z_FT) (MT := z_MT) (n := 2) zxp228 (z_ks13 _ (fun _ h => List.mem_cons_of_mem _ h) _ _ _ _ (fun j r h _ => by cases h)) (fun _ _ => zs_KX_p) zyw_M_closesSums (fun va F G h => by obtain ⟨rfl, _⟩ := h; rfl) (fun va F G h => by obtain ⟨rfl, _⟩ := h; rfl) rfl fun good va F G hB hret hvret hP => by
  obtain ⟨rfl, rfl, rfl⟩ := hP
  have l0 : ∀ (n : Nat) (x1 : Int) (f0 : Int) (f1 : Int) (g1 : (Int → Int)) (q : Int × Int × (Int → Int)), zf_M_closesSums_l0 x1 g0 n f0 f1 g1 = some q → (good 59 [.inr 1000, .inr 1000] [] [.inl q.1, .inl q.2.1] [g0, q.2.2]) → good 0 [.inr 0, .inl x1] [] [.inl f0, .inl f1] [g0, g1] := by
    intro n
    induction n with
    | zero => intro x1 f0 f1 g1 q h; exact absurd (show none = some q from h) (fun h => by cases h)
    | succ n ih =>
      intro x1 f0 f1 g1 q h hK
      replace h : zf_M_closesSums_l0_b x1 g0 (zf_M_closesSums_l0 x1 g0 n) f0 f1 g1 = some q := h
      unfold zf_M_closesSums_l0_b at h
      refine zv_ald hB zd228_0 rfl rfl rfl ?_
      obtain ⟨r1, hr1, h⟩ := zi_bind h
      refine zv_cv hB (zv_emq (va2 := [.inr 0]) (F := [.inl f0, .inl f1]) (F' := [.inl f0, .inl f1]) (G := [g0, g1]) (G' := [g0, g1]) (ρ := [0, 1]) (φ := [0]) (ψ := [0]) [some 0, none] [some 0, none] zyw_M_waitTop zyw_M_closesSums zye_M_closesSums (by decide +kernel) (zt_M_waitTop hr1) ⟨⟨_, rfl, fun _ => rfl⟩, trivial⟩ ⟨rfl, trivial⟩ rfl rfl rfl rfl rfl rfl rfl) zd228_1 zxt229 rfl (by decide) (by decide) rfl ?_
      refine zv_con hB zd228_4 rfl ?_
      refine zv_clt hB zd228_5 rfl (fun hc2 => ?_) (fun hc2 => ?_)
      · rw [if_pos hc2] at h
        refine zv_ild hB zd228_17 rfl rfl ?_
        refine zv_zeq hB zd228_18 rfl (fun hc3 => ?_) (fun hc3 => ?_)
        · rw [if_pos hc3] at h
          have hq := Option.some.inj h
          subst hq
          refine zv_wk hB (L' := [.inr 1000, .inr 1000]) (F' := [.inl f0, .inl f1]) ⟨fun (h : zv_is (.inr 1000)) => (Nat.lt_irrefl 1000 h).elim, fun (h : zv_is (.inr 1000)) => (Nat.lt_irrefl 1000 h).elim, trivial⟩ ⟨fun _ => rfl, fun _ => rfl, trivial⟩ ?_
          exact hK
        · rw [if_neg hc3] at h
          refine zv_ald hB zd228_21 rfl rfl rfl ?_
          obtain ⟨r4, hr4, h⟩ := zi_bind h
          refine zv_cv hB (zv_emq (va2 := [.inr 0]) (F := [.inl f0, .inl f1]) (F' := [.inl f0, .inl f1]) (G := [g0, g1]) (G' := [g0, g1]) (ρ := [0, 1]) (φ := [0]) (ψ := [0]) [some 0, none] [some 0, none] zyw_M_waitTop zyw_M_closesSums zye_M_closesSums (by decide +kernel) (zt_M_waitTop hr4) ⟨⟨_, rfl, fun _ => rfl⟩, trivial⟩ ⟨rfl, trivial⟩ rfl rfl rfl rfl rfl rfl rfl) zd228_22 zxt229 rfl (by decide) (by decide) rfl ?_
          refine zv_con hB zd228_25 rfl ?_
          refine zv_ceq hB zd228_26 rfl (fun hc5 => ?_) (fun hc5 => ?_)
          · rw [if_pos hc5] at h
            refine zv_ald hB zd228_37 rfl rfl rfl ?_
            refine zv_ald hB zd228_38 rfl rfl rfl ?_
            obtain ⟨r6, hr6, h⟩ := zi_bind h
            refine zv_cv hB (zv_emq (va2 := [.inr 0]) (F := [.inl f0, .inl f1]) (F' := [.inl f0, .inl f1]) (G := [g0, g1]) (G' := [g0, g1]) (ρ := [0, 1]) (φ := [0]) (ψ := [0]) [some 0, none] [some 0, none] zyw_M_waitTop zyw_M_closesSums zye_M_closesSums (by decide +kernel) (zt_M_waitTop hr6) ⟨⟨_, rfl, fun _ => rfl⟩, trivial⟩ ⟨rfl, trivial⟩ rfl rfl rfl rfl rfl rfl rfl) zd228_39 zxt229 rfl (by decide) (by decide) rfl ?_
            refine zv_con hB zd228_42 rfl ?_
            obtain ⟨r7, hr7, h⟩ := zi_bind h
            refine zv_cv hB (zv_emq (va2 := [.inr 0, .inl r6, .inl 0]) (F := [.inl f0, .inl f1]) (F' := [.inl f0, .inl r7.1]) (G := [g0, g1]) (G' := [g0, r7.2]) (ρ := [0, 2]) (φ := [1]) (ψ := [1]) [none, some 0] [none, some 0] zyw_M_notes zyw_M_closesSums zye_M_closesSums (by decide +kernel) (zt_M_notes hr7) ⟨⟨_, rfl, fun _ => rfl⟩, trivial⟩ ⟨rfl, trivial⟩ rfl rfl rfl rfl rfl rfl rfl) zd228_43 zxt225 rfl (by decide) (by decide) rfl ?_
            refine zv_ald hB zd228_46 rfl rfl rfl ?_
            refine zv_ald hB zd228_47 rfl rfl rfl ?_
            refine zv_getf hB zd228_48 rfl rfl (fun _ _ => ?_)
            refine zv_con hB zd228_51 rfl ?_
            refine zv_subw hB zd228_52 ?_
            refine zv_putf hB zd228_53 rfl rfl (fun h => by cases h) rfl ?_
            refine zv_goto hB zd228_56 rfl ?_
            exact ih _ _ _ _ q h hK
          · rw [if_neg hc5] at h
            refine zv_ald hB zd228_29 rfl rfl rfl ?_
            obtain ⟨r8, hr8, h⟩ := zi_bind h
            refine zv_cv hB (zv_emq (va2 := [.inr 0]) (F := [.inl f0, .inl f1]) (F' := [.inl f0, .inl f1]) (G := [g0, g1]) (G' := [g0, g1]) (ρ := [0, 1]) (φ := [0]) (ψ := [0]) [some 0, none] [some 0, none] zyw_M_waitTop zyw_M_closesSums zye_M_closesSums (by decide +kernel) (zt_M_waitTop hr8) ⟨⟨_, rfl, fun _ => rfl⟩, trivial⟩ ⟨rfl, trivial⟩ rfl rfl rfl rfl rfl rfl rfl) zd228_30 zxt229 rfl (by decide) (by decide) rfl ?_
            refine zv_con hB zd228_33 rfl ?_
            refine zv_cne hB zd228_34 rfl (fun hc9 => ?_) (fun hc9 => ?_)
            · rw [if_neg hc9] at h
              have hq := Option.some.inj h
              subst hq
              refine zv_wk hB (L' := [.inr 1000, .inr 1000]) (F' := [.inl f0, .inl f1]) ⟨fun (h : zv_is (.inr 1000)) => (Nat.lt_irrefl 1000 h).elim, fun (h : zv_is (.inr 1000)) => (Nat.lt_irrefl 1000 h).elim, trivial⟩ ⟨fun _ => rfl, fun _ => rfl, trivial⟩ ?_
              exact hK
            · rw [if_pos hc9] at h
              refine zv_ald hB zd228_37 rfl rfl rfl ?_
              refine zv_ald hB zd228_38 rfl rfl rfl ?_
              obtain ⟨r10, hr10, h⟩ := zi_bind h
              refine zv_cv hB (zv_emq (va2 := [.inr 0]) (F := [.inl f0, .inl f1]) (F' := [.inl f0, .inl f1]) (G := [g0, g1]) (G' := [g0, g1]) (ρ := [0, 1]) (φ := [0]) (ψ := [0]) [some 0, none] [some 0, none] zyw_M_waitTop zyw_M_closesSums zye_M_closesSums (by decide +kernel) (zt_M_waitTop hr10) ⟨⟨_, rfl, fun _ => rfl⟩, trivial⟩ ⟨rfl, trivial⟩ rfl rfl rfl rfl rfl rfl rfl) zd228_39 zxt229 rfl (by decide) (by decide) rfl ?_
              refine zv_con hB zd228_42 rfl ?_
              obtain ⟨r11, hr11, h⟩ := zi_bind h
              refine zv_cv hB (zv_emq (va2 := [.inr 0, .inl r10, .inl 0]) (F := [.inl f0, .inl f1]) (F' := [.inl f0, .inl r11.1]) (G := [g0, g1]) (G' := [g0, r11.2]) (ρ := [0, 2]) (φ := [1]) (ψ := [1]) [none, some 0] [none, some 0] zyw_M_notes zyw_M_closesSums zye_M_closesSums (by decide +kernel) (zt_M_notes hr11) ⟨⟨_, rfl, fun _ => rfl⟩, trivial⟩ ⟨rfl, trivial⟩ rfl rfl rfl rfl rfl rfl rfl) zd228_43 zxt225 rfl (by decide) (by decide) rfl ?_
              refine zv_ald hB zd228_46 rfl rfl rfl ?_
              refine zv_ald hB zd228_47 rfl rfl rfl ?_
              refine zv_getf hB zd228_48 rfl rfl (fun _ _ => ?_)
              refine zv_con hB zd228_51 rfl ?_
              refine zv_subw hB zd228_52 ?_
              refine zv_putf hB zd228_53 rfl rfl (fun h => by cases h) rfl ?_
              refine zv_goto hB zd228_56 rfl ?_
              exact ih _ _ _ _ q h hK
      · rw [if_neg (Int.not_lt.mpr hc2)] at h
        refine zv_ald hB zd228_8 rfl rfl rfl ?_
        obtain ⟨r12, hr12, h⟩ := zi_bind h
        refine zv_cv hB (zv_emq (va2 := [.inr 0]) (F := [.inl f0, .inl f1]) (F' := [.inl f0, .inl f1]) (G := [g0, g1]) (G' := [g0, g1]) (ρ := [0, 1]) (φ := [0]) (ψ := [0]) [some 0, none] [some 0, none] zyw_M_waitTop zyw_M_closesSums zye_M_closesSums (by decide +kernel) (zt_M_waitTop hr12) ⟨⟨_, rfl, fun _ => rfl⟩, trivial⟩ ⟨rfl, trivial⟩ rfl rfl rfl rfl rfl rfl rfl) zd228_9 zxt229 rfl (by decide) (by decide) rfl ?_
        refine zv_con hB zd228_12 rfl ?_
        refine zv_cle hB zd228_14 rfl (fun hc13 => ?_) (fun hc13 => ?_)
        · rw [if_neg (Int.not_lt.mpr hc13)] at h
          refine zv_ald hB zd228_37 rfl rfl rfl ?_
          refine zv_ald hB zd228_38 rfl rfl rfl ?_
          obtain ⟨r14, hr14, h⟩ := zi_bind h
          refine zv_cv hB (zv_emq (va2 := [.inr 0]) (F := [.inl f0, .inl f1]) (F' := [.inl f0, .inl f1]) (G := [g0, g1]) (G' := [g0, g1]) (ρ := [0, 1]) (φ := [0]) (ψ := [0]) [some 0, none] [some 0, none] zyw_M_waitTop zyw_M_closesSums zye_M_closesSums (by decide +kernel) (zt_M_waitTop hr14) ⟨⟨_, rfl, fun _ => rfl⟩, trivial⟩ ⟨rfl, trivial⟩ rfl rfl rfl rfl rfl rfl rfl) zd228_39 zxt229 rfl (by decide) (by decide) rfl ?_
          refine zv_con hB zd228_42 rfl ?_
          obtain ⟨r15, hr15, h⟩ := zi_bind h
          refine zv_cv hB (zv_emq (va2 := [.inr 0, .inl r14, .inl 0]) (F := [.inl f0, .inl f1]) (F' := [.inl f0, .inl r15.1]) (G := [g0, g1]) (G' := [g0, r15.2]) (ρ := [0, 2]) (φ := [1]) (ψ := [1]) [none, some 0] [none, some 0] zyw_M_notes zyw_M_closesSums zye_M_closesSums (by decide +kernel) (zt_M_notes hr15) ⟨⟨_, rfl, fun _ => rfl⟩, trivial⟩ ⟨rfl, trivial⟩ rfl rfl rfl rfl rfl rfl rfl) zd228_43 zxt225 rfl (by decide) (by decide) rfl ?_
          refine zv_ald hB zd228_46 rfl rfl rfl ?_
          refine zv_ald hB zd228_47 rfl rfl rfl ?_
          refine zv_getf hB zd228_48 rfl rfl (fun _ _ => ?_)
          refine zv_con hB zd228_51 rfl ?_
          refine zv_subw hB zd228_52 ?_
          refine zv_putf hB zd228_53 rfl rfl (fun h => by cases h) rfl ?_
          refine zv_goto hB zd228_56 rfl ?_
          exact ih _ _ _ _ q h hK
        · rw [if_pos hc13] at h
          refine zv_ild hB zd228_17 rfl rfl ?_
          refine zv_zeq hB zd228_18 rfl (fun hc16 => ?_) (fun hc16 => ?_)
          · rw [if_pos hc16] at h
            have hq := Option.some.inj h
            subst hq
            refine zv_wk hB (L' := [.inr 1000, .inr 1000]) (F' := [.inl f0, .inl f1]) ⟨fun (h : zv_is (.inr 1000)) => (Nat.lt_irrefl 1000 h).elim, fun (h : zv_is (.inr 1000)) => (Nat.lt_irrefl 1000 h).elim, trivial⟩ ⟨fun _ => rfl, fun _ => rfl, trivial⟩ ?_
            exact hK
          · rw [if_neg hc16] at h
            refine zv_ald hB zd228_21 rfl rfl rfl ?_
            obtain ⟨r17, hr17, h⟩ := zi_bind h
            refine zv_cv hB (zv_emq (va2 := [.inr 0]) (F := [.inl f0, .inl f1]) (F' := [.inl f0, .inl f1]) (G := [g0, g1]) (G' := [g0, g1]) (ρ := [0, 1]) (φ := [0]) (ψ := [0]) [some 0, none] [some 0, none] zyw_M_waitTop zyw_M_closesSums zye_M_closesSums (by decide +kernel) (zt_M_waitTop hr17) ⟨⟨_, rfl, fun _ => rfl⟩, trivial⟩ ⟨rfl, trivial⟩ rfl rfl rfl rfl rfl rfl rfl) zd228_22 zxt229 rfl (by decide) (by decide) rfl ?_
            refine zv_con hB zd228_25 rfl ?_
            refine zv_ceq hB zd228_26 rfl (fun hc18 => ?_) (fun hc18 => ?_)
            · rw [if_pos hc18] at h
              refine zv_ald hB zd228_37 rfl rfl rfl ?_
              refine zv_ald hB zd228_38 rfl rfl rfl ?_
              obtain ⟨r19, hr19, h⟩ := zi_bind h
              refine zv_cv hB (zv_emq (va2 := [.inr 0]) (F := [.inl f0, .inl f1]) (F' := [.inl f0, .inl f1]) (G := [g0, g1]) (G' := [g0, g1]) (ρ := [0, 1]) (φ := [0]) (ψ := [0]) [some 0, none] [some 0, none] zyw_M_waitTop zyw_M_closesSums zye_M_closesSums (by decide +kernel) (zt_M_waitTop hr19) ⟨⟨_, rfl, fun _ => rfl⟩, trivial⟩ ⟨rfl, trivial⟩ rfl rfl rfl rfl rfl rfl rfl) zd228_39 zxt229 rfl (by decide) (by decide) rfl ?_
              refine zv_con hB zd228_42 rfl ?_
              obtain ⟨r20, hr20, h⟩ := zi_bind h
              refine zv_cv hB (zv_emq (va2 := [.inr 0, .inl r19, .inl 0]) (F := [.inl f0, .inl f1]) (F' := [.inl f0, .inl r20.1]) (G := [g0, g1]) (G' := [g0, r20.2]) (ρ := [0, 2]) (φ := [1]) (ψ := [1]) [none, some 0] [none, some 0] zyw_M_notes zyw_M_closesSums zye_M_closesSums (by decide +kernel) (zt_M_notes hr20) ⟨⟨_, rfl, fun _ => rfl⟩, trivial⟩ ⟨rfl, trivial⟩ rfl rfl rfl rfl rfl rfl rfl) zd228_43 zxt225 rfl (by decide) (by decide) rfl ?_
              refine zv_ald hB zd228_46 rfl rfl rfl ?_
              refine zv_ald hB zd228_47 rfl rfl rfl ?_
              refine zv_getf hB zd228_48 rfl rfl (fun _ _ => ?_)
              refine zv_con hB zd228_51 rfl ?_
              refine zv_subw hB zd228_52 ?_
              refine zv_putf hB zd228_53 rfl rfl (fun h => by cases h) rfl ?_
              refine zv_goto hB zd228_56 rfl ?_
              exact ih _ _ _ _ q h hK
            · rw [if_neg hc18] at h
              refine zv_ald hB zd228_29 rfl rfl rfl ?_
              obtain ⟨r21, hr21, h⟩ := zi_bind h
              refine zv_cv hB (zv_emq (va2 := [.inr 0]) (F := [.inl f0, .inl f1]) (F' := [.inl f0, .inl f1]) (G := [g0, g1]) (G' := [g0, g1]) (ρ := [0, 1]) (φ := [0]) (ψ := [0]) [some 0, none] [some 0, none] zyw_M_waitTop zyw_M_closesSums zye_M_closesSums (by decide +kernel) (zt_M_waitTop hr21) ⟨⟨_, rfl, fun _ => rfl⟩, trivial⟩ ⟨rfl, trivial⟩ rfl rfl rfl rfl rfl rfl rfl) zd228_30 zxt229 rfl (by decide) (by decide) rfl ?_
              refine zv_con hB zd228_33 rfl ?_
              refine zv_cne hB zd228_34 rfl (fun hc22 => ?_) (fun hc22 => ?_)
              · rw [if_neg hc22] at h
                have hq := Option.some.inj h
                subst hq
                refine zv_wk hB (L' := [.inr 1000, .inr 1000]) (F' := [.inl f0, .inl f1]) ⟨fun (h : zv_is (.inr 1000)) => (Nat.lt_irrefl 1000 h).elim, fun (h : zv_is (.inr 1000)) => (Nat.lt_irrefl 1000 h).elim, trivial⟩ ⟨fun _ => rfl, fun _ => rfl, trivial⟩ ?_
                exact hK
              · rw [if_pos hc22] at h
                refine zv_ald hB zd228_37 rfl rfl rfl ?_
                refine zv_ald hB zd228_38 rfl rfl rfl ?_
                obtain ⟨r23, hr23, h⟩ := zi_bind h
                refine zv_cv hB (zv_emq (va2 := [.inr 0]) (F := [.inl f0, .inl f1]) (F' := [.inl f0, .inl f1]) (G := [g0, g1]) (G' := [g0, g1]) (ρ := [0, 1]) (φ := [0]) (ψ := [0]) [some 0, none] [some 0, none] zyw_M_waitTop zyw_M_closesSums zye_M_closesSums (by decide +kernel) (zt_M_waitTop hr23) ⟨⟨_, rfl, fun _ => rfl⟩, trivial⟩ ⟨rfl, trivial⟩ rfl rfl rfl rfl rfl rfl rfl) zd228_39 zxt229 rfl (by decide) (by decide) rfl ?_
                refine zv_con hB zd228_42 rfl ?_
                obtain ⟨r24, hr24, h⟩ := zi_bind h
                refine zv_cv hB (zv_emq (va2 := [.inr 0, .inl r23, .inl 0]) (F := [.inl f0, .inl f1]) (F' := [.inl f0, .inl r24.1]) (G := [g0, g1]) (G' := [g0, r24.2]) (ρ := [0, 2]) (φ := [1]) (ψ := [1]) [none, some 0] [none, some 0] zyw_M_notes zyw_M_closesSums zye_M_closesSums (by decide +kernel) (zt_M_notes hr24) ⟨⟨_, rfl, fun _ => rfl⟩, trivial⟩ ⟨rfl, trivial⟩ rfl rfl rfl rfl rfl rfl rfl) zd228_43 zxt225 rfl (by decide) (by decide) rfl ?_
                refine zv_ald hB zd228_46 rfl rfl rfl ?_
                refine zv_ald hB zd228_47 rfl rfl rfl ?_
                refine zv_getf hB zd228_48 rfl rfl (fun _ _ => ?_)
                refine zv_con hB zd228_51 rfl ?_
                refine zv_subw hB zd228_52 ?_
                refine zv_putf hB zd228_53 rfl rfl (fun h => by cases h) rfl ?_
                refine zv_goto hB zd228_56 rfl ?_
                exact ih _ _ _ _ q h hK
  unfold zf_M_closesSums at h
  obtain ⟨q25, hq25, h⟩ := zi_bind h
  refine l0 _ _ _ _ _ q25 hq25 ?_
  show good 59 [.inr 1000, .inr 1000] [] [.inl q25.1, .inl q25.2.1] [g0, q25.2.2]
  have hw := Option.some.inj h
  subst hw
  exact hvret _ _ _ _ zd228_59 trivial ⟨rfl, rfl, rfl⟩
/-! M_readsSum ()Z -/
-- names: 0 StarTalesModel('arg', 0), 1 (1, 220)(0, 12, 3), 2 (0, 220)(0, 12, 15), 3 (0, 220)(0, 12, 14)
-- fields: f0 = 0.waiting_, f1 = 0.place0_, f2 = 0.length0_, f3 = 0.open_, f4 = 0.fault_, f5 = 0.codeMany_, f6 = 0.number0_; arrays: g0 = 1, g1 = 2, g2 = 3; out: [('ret', None), ('f', 0), ('f', 1), ('f', 3), ('f', 4), ('f', 5), ('f', 6), ('g', 1), ('g', 2)]
abbrev zy_M_readsSum : zNL := (4, [(0, 12)], [(0, 12, 10, 0), (0, 12, 5, 1), (0, 12, 6, 2), (0, 12, 8, 3), (0, 12, 7, 4), (0, 12, 9, 5), (0, 12, 12, 6)], [(0, 12, 3, 1), (0, 12, 15, 2), (0, 12, 14, 3)], [(1, 1, 220, 0), (2, 0, 220, 1), (3, 0, 220, 2)])
theorem zyw_M_readsSum : zv_wf zy_M_readsSum = true := by decide +kernel
theorem zye_M_readsSum : zv_ek2 zy_M_readsSum = true := by decide +kernel
def zf_M_readsSum_l0_b (x1 : Int) (f2 : Int) (g0 : (Int → Int)) (rec : Int → Int → Int → Int → Int → Int → (Int → Int) → (Int → Int) → Option (((Int × Int × Int × Int × Int × Int × (Int → Int) × (Int → Int)) ⊕ (Int × Int × Int × Int × Int × Int × Int × (Int → Int) × (Int → Int))))) (f0 : Int) (f1 : Int) (f3 : Int) (f4 : Int) (f5 : Int) (f6 : Int) (g1 : (Int → Int)) (g2 : (Int → Int)) : Option (((Int × Int × Int × Int × Int × Int × (Int → Int) × (Int → Int)) ⊕ (Int × Int × Int × Int × Int × Int × Int × (Int → Int) × (Int → Int)))) := (zf_M_here f1 f2 g0).bind fun r3 => ((zf_M_sumSign r3).bind fun r4 => (if r4 = (-1) then ((zf_M_here f1 f2 g0).bind fun r6 => (if r6 = 93 then ((zf_M_hasOpenSum x1 f0 g1).bind fun r8 => (if r8 = 0 then (some (.inl (f0, f1, f3, f4, f5, f6, g1, g2))) else ((zf_M_closesSums 1 f0 f5 g1 g2).bind fun r10 => (rec (zi_w (r10.1 - 1)) (zi_w (f1 + 1)) (zi_w (f3 - 1)) f4 r10.2.1 f6 g1 r10.2.2)))) else (some (.inl (f0, f1, f3, f4, f5, f6, g1, g2))))) else (if r4 < 4 then ((zf_M_closesSums 1 f0 f5 g1 g2).bind fun r16 => (cond (zi_ix r16.1 220) ((zf_M_readsFactor (zi_w (f1 + 1)) f2 f3 (zi_w (r16.1 + 1)) f4 r16.2.1 f6 g0 (zv_up g1 r16.1 (zi_w (1048576 * r4))) r16.2.2).bind fun r18 => (if r18.1 = 0 then (some (.inr (0, r18.2.2.2.1, r18.2.1, r18.2.2.1, r18.2.2.2.2.1, r18.2.2.2.2.2.1, r18.2.2.2.2.2.2.1, r18.2.2.2.2.2.2.2.1, r18.2.2.2.2.2.2.2.2))) else (rec r18.2.2.2.1 r18.2.1 r18.2.2.1 r18.2.2.2.2.1 r18.2.2.2.2.2.1 r18.2.2.2.2.2.2.1 r18.2.2.2.2.2.2.2.1 r18.2.2.2.2.2.2.2.2))) none)) else ((zf_M_closesSums 0 f0 f5 g1 g2).bind fun r12 => (cond (zi_ix r12.1 220) ((zf_M_readsFactor (zi_w (f1 + 1)) f2 f3 (zi_w (r12.1 + 1)) f4 r12.2.1 f6 g0 (zv_up g1 r12.1 (zi_w (1048576 * r4))) r12.2.2).bind fun r14 => (if r14.1 = 0 then (some (.inr (0, r14.2.2.2.1, r14.2.1, r14.2.2.1, r14.2.2.2.2.1, r14.2.2.2.2.2.1, r14.2.2.2.2.2.2.1, r14.2.2.2.2.2.2.2.1, r14.2.2.2.2.2.2.2.2))) else (rec r14.2.2.2.1 r14.2.1 r14.2.2.1 r14.2.2.2.2.1 r14.2.2.2.2.2.1 r14.2.2.2.2.2.2.1 r14.2.2.2.2.2.2.2.1 r14.2.2.2.2.2.2.2.2))) none)))))
def zf_M_readsSum_l0 (x1 : Int) (f2 : Int) (g0 : (Int → Int)) : Nat → Int → Int → Int → Int → Int → Int → (Int → Int) → (Int → Int) → Option (((Int × Int × Int × Int × Int × Int × (Int → Int) × (Int → Int)) ⊕ (Int × Int × Int × Int × Int × Int × Int × (Int → Int) × (Int → Int))))
  | 0, _, _, _, _, _, _, _, _ => none
  | n + 1, f0, f1, f3, f4, f5, f6, g1, g2 => zf_M_readsSum_l0_b x1 f2 g0 (zf_M_readsSum_l0 x1 f2 g0 n) f0 f1 f3 f4 f5 f6 g1 g2
def zf_M_readsSum (f0 : Int) (f1 : Int) (f2 : Int) (f3 : Int) (f4 : Int) (f5 : Int) (f6 : Int) (g0 : (Int → Int)) (g1 : (Int → Int)) (g2 : (Int → Int)) : Option (Int × Int × Int × Int × Int × Int × Int × (Int → Int) × (Int → Int)) := (zf_M_readsFactor f1 f2 f3 f0 f4 f5 f6 g0 g1 g2).bind fun r1 => (if r1.1 = 0 then (some (0, r1.2.2.2.1, r1.2.1, r1.2.2.1, r1.2.2.2.2.1, r1.2.2.2.2.2.1, r1.2.2.2.2.2.2.1, r1.2.2.2.2.2.2.2.1, r1.2.2.2.2.2.2.2.2)) else ((zf_M_readsSum_l0 f0 f2 g0 zi_fu r1.2.2.2.1 r1.2.1 r1.2.2.1 r1.2.2.2.2.1 r1.2.2.2.2.2.1 r1.2.2.2.2.2.2.1 r1.2.2.2.2.2.2.2.1 r1.2.2.2.2.2.2.2.2).bind fun q20 => Sum.elim (fun e21 => ((zf_M_hasOpenSum f0 e21.1 e21.2.2.2.2.2.2.1).bind fun r22 => (if r22 = 0 then ((zf_M_closesSums 1 e21.1 e21.2.2.2.2.1 e21.2.2.2.2.2.2.1 e21.2.2.2.2.2.2.2).bind fun r24 => (some (1, r24.1, e21.2.1, e21.2.2.1, e21.2.2.2.1, r24.2.1, e21.2.2.2.2.2.1, e21.2.2.2.2.2.2.1, r24.2.2))) else ((zf_M_wrongAt 1 e21.2.1 e21.2.2.2.1).bind fun r25 => (cond (zi_bo r25.1) (some (r25.1, e21.1, e21.2.1, e21.2.2.1, r25.2, e21.2.2.2.2.1, e21.2.2.2.2.2.1, e21.2.2.2.2.2.2.1, e21.2.2.2.2.2.2.2)) none))))) (fun w27 => some w27) q20))
theorem zd220_0 : decode zxm220.2.1 0 = .ok (.aload_n 0, 1) := by decide +kernel
theorem zd220_1 : decode zxm220.2.1 1 = .ok (.getfield 206, 3) := by decide +kernel
theorem zd220_4 : decode zxm220.2.1 4 = .ok (.istore_n 1, 1) := by decide +kernel
theorem zd220_5 : decode zxm220.2.1 5 = .ok (.aload_n 0, 1) := by decide +kernel
theorem zd220_6 : decode zxm220.2.1 6 = .ok (.invokevirtual 225, 3) := by decide +kernel
theorem zd220_9 : decode zxm220.2.1 9 = .ok (.ifCond .ne 5, 3) := by decide +kernel
theorem zd220_12 : decode zxm220.2.1 12 = .ok (.iconst 0, 1) := by decide +kernel
theorem zd220_13 : decode zxm220.2.1 13 = .ok (.ireturn, 1) := by decide +kernel
theorem zd220_14 : decode zxm220.2.1 14 = .ok (.aload_n 0, 1) := by decide +kernel
theorem zd220_15 : decode zxm220.2.1 15 = .ok (.invokevirtual 182, 3) := by decide +kernel
theorem zd220_18 : decode zxm220.2.1 18 = .ok (.invokestatic 228, 3) := by decide +kernel
theorem zd220_21 : decode zxm220.2.1 21 = .ok (.istore_n 2, 1) := by decide +kernel
theorem zd220_22 : decode zxm220.2.1 22 = .ok (.iload_n 2, 1) := by decide +kernel
theorem zd220_23 : decode zxm220.2.1 23 = .ok (.iconst (-1), 1) := by decide +kernel
theorem zd220_24 : decode zxm220.2.1 24 = .ok (.if_icmp .eq 59, 3) := by decide +kernel
theorem zd220_27 : decode zxm220.2.1 27 = .ok (.aload_n 0, 1) := by decide +kernel
theorem zd220_28 : decode zxm220.2.1 28 = .ok (.iload_n 2, 1) := by decide +kernel
theorem zd220_29 : decode zxm220.2.1 29 = .ok (.iconst 4, 1) := by decide +kernel
theorem zd220_30 : decode zxm220.2.1 30 = .ok (.if_icmp .ge 7, 3) := by decide +kernel
theorem zd220_33 : decode zxm220.2.1 33 = .ok (.iconst 1, 1) := by decide +kernel
theorem zd220_34 : decode zxm220.2.1 34 = .ok (.goto 4, 3) := by decide +kernel
theorem zd220_37 : decode zxm220.2.1 37 = .ok (.iconst 0, 1) := by decide +kernel
theorem zd220_38 : decode zxm220.2.1 38 = .ok (.invokevirtual 231, 3) := by decide +kernel
theorem zd220_41 : decode zxm220.2.1 41 = .ok (.aload_n 0, 1) := by decide +kernel
theorem zd220_42 : decode zxm220.2.1 42 = .ok (.getfield 26, 3) := by decide +kernel
theorem zd220_45 : decode zxm220.2.1 45 = .ok (.aload_n 0, 1) := by decide +kernel
theorem zd220_46 : decode zxm220.2.1 46 = .ok (.getfield 206, 3) := by decide +kernel
theorem zd220_49 : decode zxm220.2.1 49 = .ok (.ldc 202, 2) := by decide +kernel
theorem zd220_51 : decode zxm220.2.1 51 = .ok (.iload_n 2, 1) := by decide +kernel
theorem zd220_52 : decode zxm220.2.1 52 = .ok (.imul, 1) := by decide +kernel
theorem zd220_53 : decode zxm220.2.1 53 = .ok (.iastore, 1) := by decide +kernel
theorem zd220_54 : decode zxm220.2.1 54 = .ok (.aload_n 0, 1) := by decide +kernel
theorem zd220_55 : decode zxm220.2.1 55 = .ok (.aload_n 0, 1) := by decide +kernel
theorem zd220_56 : decode zxm220.2.1 56 = .ok (.getfield 206, 3) := by decide +kernel
theorem zd220_59 : decode zxm220.2.1 59 = .ok (.iconst 1, 1) := by decide +kernel
theorem zd220_60 : decode zxm220.2.1 60 = .ok (.iadd, 1) := by decide +kernel
theorem zd220_61 : decode zxm220.2.1 61 = .ok (.putfield 206, 3) := by decide +kernel
theorem zd220_64 : decode zxm220.2.1 64 = .ok (.aload_n 0, 1) := by decide +kernel
theorem zd220_65 : decode zxm220.2.1 65 = .ok (.aload_n 0, 1) := by decide +kernel
theorem zd220_66 : decode zxm220.2.1 66 = .ok (.getfield 176, 3) := by decide +kernel
theorem zd220_69 : decode zxm220.2.1 69 = .ok (.iconst 1, 1) := by decide +kernel
theorem zd220_70 : decode zxm220.2.1 70 = .ok (.iadd, 1) := by decide +kernel
theorem zd220_71 : decode zxm220.2.1 71 = .ok (.putfield 176, 3) := by decide +kernel
theorem zd220_74 : decode zxm220.2.1 74 = .ok (.aload_n 0, 1) := by decide +kernel
theorem zd220_75 : decode zxm220.2.1 75 = .ok (.invokevirtual 225, 3) := by decide +kernel
theorem zd220_78 : decode zxm220.2.1 78 = .ok (.ifCond .ne 85, 3) := by decide +kernel
theorem zd220_81 : decode zxm220.2.1 81 = .ok (.iconst 0, 1) := by decide +kernel
theorem zd220_82 : decode zxm220.2.1 82 = .ok (.ireturn, 1) := by decide +kernel
theorem zd220_83 : decode zxm220.2.1 83 = .ok (.aload_n 0, 1) := by decide +kernel
theorem zd220_84 : decode zxm220.2.1 84 = .ok (.invokevirtual 182, 3) := by decide +kernel
theorem zd220_87 : decode zxm220.2.1 87 = .ok (.bipush 93, 2) := by decide +kernel
theorem zd220_89 : decode zxm220.2.1 89 = .ok (.if_icmp .ne 49, 3) := by decide +kernel
theorem zd220_92 : decode zxm220.2.1 92 = .ok (.aload_n 0, 1) := by decide +kernel
theorem zd220_93 : decode zxm220.2.1 93 = .ok (.iload_n 1, 1) := by decide +kernel
theorem zd220_94 : decode zxm220.2.1 94 = .ok (.invokevirtual 235, 3) := by decide +kernel
theorem zd220_97 : decode zxm220.2.1 97 = .ok (.ifCond .eq 41, 3) := by decide +kernel
theorem zd220_100 : decode zxm220.2.1 100 = .ok (.aload_n 0, 1) := by decide +kernel
theorem zd220_101 : decode zxm220.2.1 101 = .ok (.iconst 1, 1) := by decide +kernel
theorem zd220_102 : decode zxm220.2.1 102 = .ok (.invokevirtual 231, 3) := by decide +kernel
theorem zd220_105 : decode zxm220.2.1 105 = .ok (.aload_n 0, 1) := by decide +kernel
theorem zd220_106 : decode zxm220.2.1 106 = .ok (.aload_n 0, 1) := by decide +kernel
theorem zd220_107 : decode zxm220.2.1 107 = .ok (.getfield 206, 3) := by decide +kernel
theorem zd220_110 : decode zxm220.2.1 110 = .ok (.iconst 1, 1) := by decide +kernel
theorem zd220_111 : decode zxm220.2.1 111 = .ok (.isub, 1) := by decide +kernel
theorem zd220_112 : decode zxm220.2.1 112 = .ok (.putfield 206, 3) := by decide +kernel
theorem zd220_115 : decode zxm220.2.1 115 = .ok (.aload_n 0, 1) := by decide +kernel
theorem zd220_116 : decode zxm220.2.1 116 = .ok (.aload_n 0, 1) := by decide +kernel
theorem zd220_117 : decode zxm220.2.1 117 = .ok (.getfield 203, 3) := by decide +kernel
theorem zd220_120 : decode zxm220.2.1 120 = .ok (.iconst 1, 1) := by decide +kernel
theorem zd220_121 : decode zxm220.2.1 121 = .ok (.isub, 1) := by decide +kernel
theorem zd220_122 : decode zxm220.2.1 122 = .ok (.putfield 203, 3) := by decide +kernel
theorem zd220_125 : decode zxm220.2.1 125 = .ok (.aload_n 0, 1) := by decide +kernel
theorem zd220_126 : decode zxm220.2.1 126 = .ok (.aload_n 0, 1) := by decide +kernel
theorem zd220_127 : decode zxm220.2.1 127 = .ok (.getfield 176, 3) := by decide +kernel
theorem zd220_130 : decode zxm220.2.1 130 = .ok (.iconst 1, 1) := by decide +kernel
theorem zd220_131 : decode zxm220.2.1 131 = .ok (.iadd, 1) := by decide +kernel
theorem zd220_132 : decode zxm220.2.1 132 = .ok (.putfield 176, 3) := by decide +kernel
theorem zd220_135 : decode zxm220.2.1 135 = .ok (.goto 28, 3) := by decide +kernel
theorem zd220_138 : decode zxm220.2.1 138 = .ok (.aload_n 0, 1) := by decide +kernel
theorem zd220_139 : decode zxm220.2.1 139 = .ok (.iload_n 1, 1) := by decide +kernel
theorem zd220_140 : decode zxm220.2.1 140 = .ok (.invokevirtual 235, 3) := by decide +kernel
theorem zd220_143 : decode zxm220.2.1 143 = .ok (.ifCond .eq 13, 3) := by decide +kernel
theorem zd220_146 : decode zxm220.2.1 146 = .ok (.aload_n 0, 1) := by decide +kernel
theorem zd220_147 : decode zxm220.2.1 147 = .ok (.iconst 1, 1) := by decide +kernel
theorem zd220_148 : decode zxm220.2.1 148 = .ok (.aload_n 0, 1) := by decide +kernel
theorem zd220_149 : decode zxm220.2.1 149 = .ok (.getfield 176, 3) := by decide +kernel
theorem zd220_152 : decode zxm220.2.1 152 = .ok (.invokevirtual 189, 3) := by decide +kernel
theorem zd220_155 : decode zxm220.2.1 155 = .ok (.ireturn, 1) := by decide +kernel
theorem zd220_156 : decode zxm220.2.1 156 = .ok (.aload_n 0, 1) := by decide +kernel
theorem zd220_157 : decode zxm220.2.1 157 = .ok (.iconst 1, 1) := by decide +kernel
theorem zd220_158 : decode zxm220.2.1 158 = .ok (.invokevirtual 231, 3) := by decide +kernel
theorem zd220_161 : decode zxm220.2.1 161 = .ok (.iconst 1, 1) := by decide +kernel
theorem zd220_162 : decode zxm220.2.1 162 = .ok (.ireturn, 1) := by decide +kernel
theorem zd220_163 : decode zxm220.2.1 163 = .ok (.goto (-149), 3) := by decide +kernel
theorem zt_M_readsSum {f0 : Int} {f1 : Int} {f2 : Int} {f3 : Int} {f4 : Int} {f5 : Int} {f6 : Int} {g0 : (Int → Int)} {g1 : (Int → Int)} {g2 : (Int → Int)} {o : Int × Int × Int × Int × Int × Int × Int × (Int → Int) × (Int → Int)} (h : zf_M_readsSum f0 f1 f2 f3 f4 f5 f6 g0 g1 g2 = some o) : zv_Fn z_TB z_cl z_KX zy_M_readsSum zxm220 (4, 240) [.inr 0] [.inl f0, .inl f1, .inl f2, .inl f3, .inl f4, .inl f5, .inl f6] [g0, g1, g2] (some o.1) [.inl o.2.1, .inl o.2.2.1, .inl f2, .inl o.2.2.2.1, .inl o.2.2.2.2.1, .inl o.2.2.2.2.2.1, .inl o.2.2.2.2.2.2.1] [g0, o.2.2.2.2.2.2.2.1, o.2.2.2.2.2.2.2.2] := zv_meth (K := (z_KF13, z_KC13, z_KL13, z_KT13, [], [], [], none)) (FT := z_FT) (MT := z_MT) (n := 1) zxp220 (z_ks13 _ (fun _ h => List.mem_cons_of_mem _ h) _ _ _ _ (fun j r h _ => by cases h)) (fun _ _ => zs_KX_p) zyw_M_readsSum (fun va F G h => by obtain ⟨rfl, _⟩ := h; rfl) (fun va F G h => by obtain ⟨rfl, _⟩ := h; rfl) rfl fun good va F G hB hret hvret hP => by
  obtain ⟨rfl, rfl, rfl⟩ := hP
  have l0 : ∀ (n : Nat) (x1 : Int) (f0 : Int) (f1 : Int) (f3 : Int) (f4 : Int) (f5 : Int) (f6 : Int) (g1 : (Int → Int)) (g2 : (Int → Int)) (q : ((Int × Int × Int × Int × Int × Int × (Int → Int) × (Int → Int)) ⊕ (Int × Int × Int × Int × Int × Int × Int × (Int → Int) × (Int → Int)))), zf_M_readsSum_l0 x1 f2 g0 n f0 f1 f3 f4 f5 f6 g1 g2 = some q → (Sum.elim (fun e : Int × Int × Int × Int × Int × Int × (Int → Int) × (Int → Int) => good 138 [.inr 0, .inl x1, .inr 1000] [] [.inl e.1, .inl e.2.1, .inl f2, .inl e.2.2.1, .inl e.2.2.2.1, .inl e.2.2.2.2.1, .inl e.2.2.2.2.2.1] [g0, e.2.2.2.2.2.2.1, e.2.2.2.2.2.2.2]) (fun w : Int × Int × Int × Int × Int × Int × Int × (Int → Int) × (Int → Int) => w = o) q) → good 14 [.inr 0, .inl x1, .inr 1000] [] [.inl f0, .inl f1, .inl f2, .inl f3, .inl f4, .inl f5, .inl f6] [g0, g1, g2] := by
    intro n
    induction n with
    | zero => intro x1 f0 f1 f3 f4 f5 f6 g1 g2 q h; exact absurd (show none = some q from h) (fun h => by cases h)
    | succ n ih =>
      intro x1 f0 f1 f3 f4 f5 f6 g1 g2 q h hK
      replace h : zf_M_readsSum_l0_b x1 f2 g0 (zf_M_readsSum_l0 x1 f2 g0 n) f0 f1 f3 f4 f5 f6 g1 g2 = some q := h
      unfold zf_M_readsSum_l0_b at h
      refine zv_ald hB zd220_14 rfl rfl rfl ?_
      obtain ⟨r3, hr3, h⟩ := zi_bind h
      refine zv_cv hB (zv_emq (va2 := [.inr 0]) (F := [.inl f0, .inl f1, .inl f2, .inl f3, .inl f4, .inl f5, .inl f6]) (F' := [.inl f0, .inl f1, .inl f2, .inl f3, .inl f4, .inl f5, .inl f6]) (G := [g0, g1, g2]) (G' := [g0, g1, g2]) (ρ := [0, 1]) (φ := [1, 2]) (ψ := [0]) [none, some 0, some 1, none, none, none, none] [some 0, none, none] zyw_M_here zyw_M_readsSum zye_M_readsSum (by decide +kernel) (zt_M_here hr3) ⟨⟨_, rfl, fun _ => rfl⟩, ⟨_, rfl, fun _ => rfl⟩, trivial⟩ ⟨rfl, trivial⟩ rfl rfl rfl rfl rfl rfl rfl) zd220_15 zxt217 rfl (by decide) (by decide) rfl ?_
      obtain ⟨r4, hr4, h⟩ := zi_bind h
      refine zv_cs hB (zv_emq (va2 := [.inl r3]) (F := [.inl f0, .inl f1, .inl f2, .inl f3, .inl f4, .inl f5, .inl f6]) (F' := [.inl f0, .inl f1, .inl f2, .inl f3, .inl f4, .inl f5, .inl f6]) (G := [g0, g1, g2]) (G' := [g0, g1, g2]) (ρ := []) (φ := []) (ψ := []) [none, none, none, none, none, none, none] [none, none, none] zyw_M_sumSign zyw_M_readsSum zye_M_readsSum (by decide +kernel) (zt_M_sumSign hr4) trivial trivial rfl rfl rfl rfl rfl rfl rfl) zd220_18 zxt227 rfl (by decide) (by decide) rfl ?_
      refine zv_ist hB zd220_21 rfl rfl rfl ?_
      refine zv_ild hB zd220_22 rfl rfl ?_
      refine zv_con hB zd220_23 rfl ?_
      refine zv_ceq hB zd220_24 rfl (fun hc5 => ?_) (fun hc5 => ?_)
      · rw [if_pos hc5] at h
        refine zv_ald hB zd220_83 rfl rfl rfl ?_
        obtain ⟨r6, hr6, h⟩ := zi_bind h
        refine zv_cv hB (zv_emq (va2 := [.inr 0]) (F := [.inl f0, .inl f1, .inl f2, .inl f3, .inl f4, .inl f5, .inl f6]) (F' := [.inl f0, .inl f1, .inl f2, .inl f3, .inl f4, .inl f5, .inl f6]) (G := [g0, g1, g2]) (G' := [g0, g1, g2]) (ρ := [0, 1]) (φ := [1, 2]) (ψ := [0]) [none, some 0, some 1, none, none, none, none] [some 0, none, none] zyw_M_here zyw_M_readsSum zye_M_readsSum (by decide +kernel) (zt_M_here hr6) ⟨⟨_, rfl, fun _ => rfl⟩, ⟨_, rfl, fun _ => rfl⟩, trivial⟩ ⟨rfl, trivial⟩ rfl rfl rfl rfl rfl rfl rfl) zd220_84 zxt217 rfl (by decide) (by decide) rfl ?_
        refine zv_con hB zd220_87 rfl ?_
        refine zv_cne hB zd220_89 rfl (fun hc7 => ?_) (fun hc7 => ?_)
        · rw [if_neg hc7] at h
          have hq := Option.some.inj h
          subst hq
          refine zv_wk hB (L' := [.inr 0, .inl x1, .inr 1000]) (F' := [.inl f0, .inl f1, .inl f2, .inl f3, .inl f4, .inl f5, .inl f6]) ⟨fun _ => rfl, fun _ => rfl, fun (h : zv_is (.inr 1000)) => (Nat.lt_irrefl 1000 h).elim, trivial⟩ ⟨fun _ => rfl, fun _ => rfl, fun _ => rfl, fun _ => rfl, fun _ => rfl, fun _ => rfl, fun _ => rfl, trivial⟩ ?_
          exact hK
        · rw [if_pos hc7] at h
          refine zv_ald hB zd220_92 rfl rfl rfl ?_
          refine zv_ild hB zd220_93 rfl rfl ?_
          obtain ⟨r8, hr8, h⟩ := zi_bind h
          refine zv_cv hB (zv_emq (va2 := [.inr 0, .inl x1]) (F := [.inl f0, .inl f1, .inl f2, .inl f3, .inl f4, .inl f5, .inl f6]) (F' := [.inl f0, .inl f1, .inl f2, .inl f3, .inl f4, .inl f5, .inl f6]) (G := [g0, g1, g2]) (G' := [g0, g1, g2]) (ρ := [0, 2]) (φ := [0]) (ψ := [1]) [some 0, none, none, none, none, none, none] [none, some 0, none] zyw_M_hasOpenSum zyw_M_readsSum zye_M_readsSum (by decide +kernel) (zt_M_hasOpenSum hr8) ⟨⟨_, rfl, fun _ => rfl⟩, trivial⟩ ⟨rfl, trivial⟩ rfl rfl rfl rfl rfl rfl rfl) zd220_94 zxt230 rfl (by decide) (by decide) rfl ?_
          refine zv_zeq hB zd220_97 rfl (fun hc9 => ?_) (fun hc9 => ?_)
          · rw [if_pos hc9] at h
            have hq := Option.some.inj h
            subst hq
            refine zv_wk hB (L' := [.inr 0, .inl x1, .inr 1000]) (F' := [.inl f0, .inl f1, .inl f2, .inl f3, .inl f4, .inl f5, .inl f6]) ⟨fun _ => rfl, fun _ => rfl, fun (h : zv_is (.inr 1000)) => (Nat.lt_irrefl 1000 h).elim, trivial⟩ ⟨fun _ => rfl, fun _ => rfl, fun _ => rfl, fun _ => rfl, fun _ => rfl, fun _ => rfl, fun _ => rfl, trivial⟩ ?_
            exact hK
          · rw [if_neg hc9] at h
            refine zv_ald hB zd220_100 rfl rfl rfl ?_
            refine zv_con hB zd220_101 rfl ?_
            obtain ⟨r10, hr10, h⟩ := zi_bind h
            refine zv_cv hB (zv_emq (va2 := [.inr 0, .inl 1]) (F := [.inl f0, .inl f1, .inl f2, .inl f3, .inl f4, .inl f5, .inl f6]) (F' := [.inl r10.1, .inl f1, .inl f2, .inl f3, .inl f4, .inl r10.2.1, .inl f6]) (G := [g0, g1, g2]) (G' := [g0, g1, r10.2.2]) (ρ := [0, 2, 3]) (φ := [0, 5]) (ψ := [1, 2]) [some 0, none, none, none, none, some 1, none] [none, some 0, some 1] zyw_M_closesSums zyw_M_readsSum zye_M_readsSum (by decide +kernel) (zt_M_closesSums hr10) ⟨⟨_, rfl, fun _ => rfl⟩, ⟨_, rfl, fun _ => rfl⟩, trivial⟩ ⟨rfl, rfl, trivial⟩ rfl rfl rfl rfl rfl rfl rfl) zd220_102 zxt228 rfl (by decide) (by decide) rfl ?_
            refine zv_ald hB zd220_105 rfl rfl rfl ?_
            refine zv_ald hB zd220_106 rfl rfl rfl ?_
            refine zv_getf hB zd220_107 rfl rfl (fun _ _ => ?_)
            refine zv_con hB zd220_110 rfl ?_
            refine zv_subw hB zd220_111 ?_
            refine zv_putf hB zd220_112 rfl rfl (fun h => by cases h) rfl ?_
            refine zv_ald hB zd220_115 rfl rfl rfl ?_
            refine zv_ald hB zd220_116 rfl rfl rfl ?_
            refine zv_getf hB zd220_117 rfl rfl (fun _ _ => ?_)
            refine zv_con hB zd220_120 rfl ?_
            refine zv_subw hB zd220_121 ?_
            refine zv_putf hB zd220_122 rfl rfl (fun h => by cases h) rfl ?_
            refine zv_ald hB zd220_125 rfl rfl rfl ?_
            refine zv_ald hB zd220_126 rfl rfl rfl ?_
            refine zv_getf hB zd220_127 rfl rfl (fun _ _ => ?_)
            refine zv_con hB zd220_130 rfl ?_
            refine zv_addw hB zd220_131 ?_
            refine zv_putf hB zd220_132 rfl rfl (fun h => by cases h) rfl ?_
            refine zv_goto hB zd220_135 rfl ?_
            refine zv_goto hB zd220_163 rfl ?_
            refine zv_wk hB (L' := [.inr 0, .inl x1, .inr 1000]) (F' := [.inl (zi_w (r10.1 - 1)), .inl (zi_w (f1 + 1)), .inl f2, .inl (zi_w (f3 - 1)), .inl f4, .inl r10.2.1, .inl f6]) ⟨fun _ => rfl, fun _ => rfl, fun (h : zv_is (.inr 1000)) => (Nat.lt_irrefl 1000 h).elim, trivial⟩ ⟨fun _ => rfl, fun _ => rfl, fun _ => rfl, fun _ => rfl, fun _ => rfl, fun _ => rfl, fun _ => rfl, trivial⟩ ?_
            exact ih _ _ _ _ _ _ _ _ _ q h hK
      · rw [if_neg hc5] at h
        refine zv_ald hB zd220_27 rfl rfl rfl ?_
        refine zv_ild hB zd220_28 rfl rfl ?_
        refine zv_con hB zd220_29 rfl ?_
        refine zv_cge hB zd220_30 rfl (fun hc11 => ?_) (fun hc11 => ?_)
        · rw [if_neg (Int.not_lt.mpr hc11)] at h
          refine zv_con hB zd220_37 rfl ?_
          obtain ⟨r12, hr12, h⟩ := zi_bind h
          refine zv_cv hB (zv_emq (va2 := [.inr 0, .inl 0]) (F := [.inl f0, .inl f1, .inl f2, .inl f3, .inl f4, .inl f5, .inl f6]) (F' := [.inl r12.1, .inl f1, .inl f2, .inl f3, .inl f4, .inl r12.2.1, .inl f6]) (G := [g0, g1, g2]) (G' := [g0, g1, r12.2.2]) (ρ := [0, 2, 3]) (φ := [0, 5]) (ψ := [1, 2]) [some 0, none, none, none, none, some 1, none] [none, some 0, some 1] zyw_M_closesSums zyw_M_readsSum zye_M_readsSum (by decide +kernel) (zt_M_closesSums hr12) ⟨⟨_, rfl, fun _ => rfl⟩, ⟨_, rfl, fun _ => rfl⟩, trivial⟩ ⟨rfl, rfl, trivial⟩ rfl rfl rfl rfl rfl rfl rfl) zd220_38 zxt228 rfl (by decide) (by decide) rfl ?_
          refine zv_ald hB zd220_41 rfl rfl rfl ?_
          refine zv_getr hB zd220_42 rfl ?_
          refine zv_ald hB zd220_45 rfl rfl rfl ?_
          refine zv_getf hB zd220_46 rfl rfl (fun _ _ => ?_)
          refine zv_con (n := 1048576) hB zd220_49 (by decide +kernel) ?_
          refine zv_ild hB zd220_51 rfl rfl ?_
          refine zv_mulw hB zd220_52 ?_
          obtain ⟨c13, h⟩ := zi_if h
          refine zv_iast hB zd220_53 rfl rfl (zi_ix_ok c13).1 (zi_ix_ok c13).2 ?_
          refine zv_ald hB zd220_54 rfl rfl rfl ?_
          refine zv_ald hB zd220_55 rfl rfl rfl ?_
          refine zv_getf hB zd220_56 rfl rfl (fun _ _ => ?_)
          refine zv_con hB zd220_59 rfl ?_
          refine zv_addw hB zd220_60 ?_
          refine zv_putf hB zd220_61 rfl rfl (fun h => by cases h) rfl ?_
          refine zv_ald hB zd220_64 rfl rfl rfl ?_
          refine zv_ald hB zd220_65 rfl rfl rfl ?_
          refine zv_getf hB zd220_66 rfl rfl (fun _ _ => ?_)
          refine zv_con hB zd220_69 rfl ?_
          refine zv_addw hB zd220_70 ?_
          refine zv_putf hB zd220_71 rfl rfl (fun h => by cases h) rfl ?_
          refine zv_ald hB zd220_74 rfl rfl rfl ?_
          obtain ⟨r14, hr14, h⟩ := zi_bind h
          refine zv_cv hB (zv_emq (va2 := [.inr 0]) (F := [.inl (zi_w (r12.1 + 1)), .inl (zi_w (f1 + 1)), .inl f2, .inl f3, .inl f4, .inl r12.2.1, .inl f6]) (F' := [.inl r14.2.2.2.1, .inl r14.2.1, .inl f2, .inl r14.2.2.1, .inl r14.2.2.2.2.1, .inl r14.2.2.2.2.2.1, .inl r14.2.2.2.2.2.2.1]) (G := [g0, (zv_up g1 r12.1 (zi_w (1048576 * r4))), r12.2.2]) (G' := [g0, r14.2.2.2.2.2.2.2.1, r14.2.2.2.2.2.2.2.2]) (ρ := [0, 1, 2, 3]) (φ := [1, 2, 3, 0, 4, 5, 6]) (ψ := [0, 1, 2]) [some 3, some 0, some 1, some 2, some 4, some 5, some 6] [some 0, some 1, some 2] zyw_M_readsFactor zyw_M_readsSum zye_M_readsSum (by decide +kernel) (zt_M_readsFactor hr14) ⟨⟨_, rfl, fun _ => rfl⟩, ⟨_, rfl, fun _ => rfl⟩, ⟨_, rfl, fun _ => rfl⟩, ⟨_, rfl, fun _ => rfl⟩, ⟨_, rfl, fun _ => rfl⟩, ⟨_, rfl, fun _ => rfl⟩, ⟨_, rfl, fun _ => rfl⟩, trivial⟩ ⟨rfl, rfl, rfl, trivial⟩ rfl rfl rfl rfl rfl rfl rfl) zd220_75 zxt221 rfl (by decide) (by decide) rfl ?_
          refine zv_zne hB zd220_78 rfl (fun hc15 => ?_) (fun hc15 => ?_)
          · rw [if_neg hc15] at h
            refine zv_goto hB zd220_163 rfl ?_
            refine zv_wk hB (L' := [.inr 0, .inl x1, .inr 1000]) (F' := [.inl r14.2.2.2.1, .inl r14.2.1, .inl f2, .inl r14.2.2.1, .inl r14.2.2.2.2.1, .inl r14.2.2.2.2.2.1, .inl r14.2.2.2.2.2.2.1]) ⟨fun _ => rfl, fun _ => rfl, fun (h : zv_is (.inr 1000)) => (Nat.lt_irrefl 1000 h).elim, trivial⟩ ⟨fun _ => rfl, fun _ => rfl, fun _ => rfl, fun _ => rfl, fun _ => rfl, fun _ => rfl, fun _ => rfl, trivial⟩ ?_
            exact ih _ _ _ _ _ _ _ _ _ q h hK
          · rw [if_pos hc15] at h
            refine zv_con hB zd220_81 rfl ?_
            have hw : (0, r14.2.2.2.1, r14.2.1, r14.2.2.1, r14.2.2.2.2.1, r14.2.2.2.2.2.1, r14.2.2.2.2.2.2.1, r14.2.2.2.2.2.2.2.1, r14.2.2.2.2.2.2.2.2) = o := zi_rk (Option.some.inj h) hK
            subst hw
            exact hret _ _ _ _ _ zd220_82 (by constructor <;> decide) ⟨rfl, rfl, rfl⟩
        · rw [if_pos hc11] at h
          refine zv_con hB zd220_33 rfl ?_
          refine zv_goto hB zd220_34 rfl ?_
          obtain ⟨r16, hr16, h⟩ := zi_bind h
          refine zv_cv hB (zv_emq (va2 := [.inr 0, .inl 1]) (F := [.inl f0, .inl f1, .inl f2, .inl f3, .inl f4, .inl f5, .inl f6]) (F' := [.inl r16.1, .inl f1, .inl f2, .inl f3, .inl f4, .inl r16.2.1, .inl f6]) (G := [g0, g1, g2]) (G' := [g0, g1, r16.2.2]) (ρ := [0, 2, 3]) (φ := [0, 5]) (ψ := [1, 2]) [some 0, none, none, none, none, some 1, none] [none, some 0, some 1] zyw_M_closesSums zyw_M_readsSum zye_M_readsSum (by decide +kernel) (zt_M_closesSums hr16) ⟨⟨_, rfl, fun _ => rfl⟩, ⟨_, rfl, fun _ => rfl⟩, trivial⟩ ⟨rfl, rfl, trivial⟩ rfl rfl rfl rfl rfl rfl rfl) zd220_38 zxt228 rfl (by decide) (by decide) rfl ?_
          refine zv_ald hB zd220_41 rfl rfl rfl ?_
          refine zv_getr hB zd220_42 rfl ?_
          refine zv_ald hB zd220_45 rfl rfl rfl ?_
          refine zv_getf hB zd220_46 rfl rfl (fun _ _ => ?_)
          refine zv_con (n := 1048576) hB zd220_49 (by decide +kernel) ?_
          refine zv_ild hB zd220_51 rfl rfl ?_
          refine zv_mulw hB zd220_52 ?_
          obtain ⟨c17, h⟩ := zi_if h
          refine zv_iast hB zd220_53 rfl rfl (zi_ix_ok c17).1 (zi_ix_ok c17).2 ?_
          refine zv_ald hB zd220_54 rfl rfl rfl ?_
          refine zv_ald hB zd220_55 rfl rfl rfl ?_
          refine zv_getf hB zd220_56 rfl rfl (fun _ _ => ?_)
          refine zv_con hB zd220_59 rfl ?_
          refine zv_addw hB zd220_60 ?_
          refine zv_putf hB zd220_61 rfl rfl (fun h => by cases h) rfl ?_
          refine zv_ald hB zd220_64 rfl rfl rfl ?_
          refine zv_ald hB zd220_65 rfl rfl rfl ?_
          refine zv_getf hB zd220_66 rfl rfl (fun _ _ => ?_)
          refine zv_con hB zd220_69 rfl ?_
          refine zv_addw hB zd220_70 ?_
          refine zv_putf hB zd220_71 rfl rfl (fun h => by cases h) rfl ?_
          refine zv_ald hB zd220_74 rfl rfl rfl ?_
          obtain ⟨r18, hr18, h⟩ := zi_bind h
          refine zv_cv hB (zv_emq (va2 := [.inr 0]) (F := [.inl (zi_w (r16.1 + 1)), .inl (zi_w (f1 + 1)), .inl f2, .inl f3, .inl f4, .inl r16.2.1, .inl f6]) (F' := [.inl r18.2.2.2.1, .inl r18.2.1, .inl f2, .inl r18.2.2.1, .inl r18.2.2.2.2.1, .inl r18.2.2.2.2.2.1, .inl r18.2.2.2.2.2.2.1]) (G := [g0, (zv_up g1 r16.1 (zi_w (1048576 * r4))), r16.2.2]) (G' := [g0, r18.2.2.2.2.2.2.2.1, r18.2.2.2.2.2.2.2.2]) (ρ := [0, 1, 2, 3]) (φ := [1, 2, 3, 0, 4, 5, 6]) (ψ := [0, 1, 2]) [some 3, some 0, some 1, some 2, some 4, some 5, some 6] [some 0, some 1, some 2] zyw_M_readsFactor zyw_M_readsSum zye_M_readsSum (by decide +kernel) (zt_M_readsFactor hr18) ⟨⟨_, rfl, fun _ => rfl⟩, ⟨_, rfl, fun _ => rfl⟩, ⟨_, rfl, fun _ => rfl⟩, ⟨_, rfl, fun _ => rfl⟩, ⟨_, rfl, fun _ => rfl⟩, ⟨_, rfl, fun _ => rfl⟩, ⟨_, rfl, fun _ => rfl⟩, trivial⟩ ⟨rfl, rfl, rfl, trivial⟩ rfl rfl rfl rfl rfl rfl rfl) zd220_75 zxt221 rfl (by decide) (by decide) rfl ?_
          refine zv_zne hB zd220_78 rfl (fun hc19 => ?_) (fun hc19 => ?_)
          · rw [if_neg hc19] at h
            refine zv_goto hB zd220_163 rfl ?_
            refine zv_wk hB (L' := [.inr 0, .inl x1, .inr 1000]) (F' := [.inl r18.2.2.2.1, .inl r18.2.1, .inl f2, .inl r18.2.2.1, .inl r18.2.2.2.2.1, .inl r18.2.2.2.2.2.1, .inl r18.2.2.2.2.2.2.1]) ⟨fun _ => rfl, fun _ => rfl, fun (h : zv_is (.inr 1000)) => (Nat.lt_irrefl 1000 h).elim, trivial⟩ ⟨fun _ => rfl, fun _ => rfl, fun _ => rfl, fun _ => rfl, fun _ => rfl, fun _ => rfl, fun _ => rfl, trivial⟩ ?_
            exact ih _ _ _ _ _ _ _ _ _ q h hK
          · rw [if_pos hc19] at h
            refine zv_con hB zd220_81 rfl ?_
            have hw : (0, r18.2.2.2.1, r18.2.1, r18.2.2.1, r18.2.2.2.2.1, r18.2.2.2.2.2.1, r18.2.2.2.2.2.2.1, r18.2.2.2.2.2.2.2.1, r18.2.2.2.2.2.2.2.2) = o := zi_rk (Option.some.inj h) hK
            subst hw
            exact hret _ _ _ _ _ zd220_82 (by constructor <;> decide) ⟨rfl, rfl, rfl⟩
  unfold zf_M_readsSum at h
  refine zv_ald hB zd220_0 rfl rfl rfl ?_
  refine zv_getf hB zd220_1 rfl rfl (fun _ _ => ?_)
  refine zv_ist hB zd220_4 rfl rfl rfl ?_
  refine zv_ald hB zd220_5 rfl rfl rfl ?_
  obtain ⟨r1, hr1, h⟩ := zi_bind h
  refine zv_cv hB (zv_emq (va2 := [.inr 0]) (F := [.inl f0, .inl f1, .inl f2, .inl f3, .inl f4, .inl f5, .inl f6]) (F' := [.inl r1.2.2.2.1, .inl r1.2.1, .inl f2, .inl r1.2.2.1, .inl r1.2.2.2.2.1, .inl r1.2.2.2.2.2.1, .inl r1.2.2.2.2.2.2.1]) (G := [g0, g1, g2]) (G' := [g0, r1.2.2.2.2.2.2.2.1, r1.2.2.2.2.2.2.2.2]) (ρ := [0, 1, 2, 3]) (φ := [1, 2, 3, 0, 4, 5, 6]) (ψ := [0, 1, 2]) [some 3, some 0, some 1, some 2, some 4, some 5, some 6] [some 0, some 1, some 2] zyw_M_readsFactor zyw_M_readsSum zye_M_readsSum (by decide +kernel) (zt_M_readsFactor hr1) ⟨⟨_, rfl, fun _ => rfl⟩, ⟨_, rfl, fun _ => rfl⟩, ⟨_, rfl, fun _ => rfl⟩, ⟨_, rfl, fun _ => rfl⟩, ⟨_, rfl, fun _ => rfl⟩, ⟨_, rfl, fun _ => rfl⟩, ⟨_, rfl, fun _ => rfl⟩, trivial⟩ ⟨rfl, rfl, rfl, trivial⟩ rfl rfl rfl rfl rfl rfl rfl) zd220_6 zxt221 rfl (by decide) (by decide) rfl ?_
  refine zv_zne hB zd220_9 rfl (fun hc2 => ?_) (fun hc2 => ?_)
  · rw [if_neg hc2] at h
    obtain ⟨q20, hq20, h⟩ := zi_bind h
    refine l0 _ _ _ _ _ _ _ _ _ _ q20 hq20 ?_
    rcases q20 with e21 | w27
    · replace h := zi_sl h
      show good 138 [.inr 0, .inl f0, .inr 1000] [] [.inl e21.1, .inl e21.2.1, .inl f2, .inl e21.2.2.1, .inl e21.2.2.2.1, .inl e21.2.2.2.2.1, .inl e21.2.2.2.2.2.1] [g0, e21.2.2.2.2.2.2.1, e21.2.2.2.2.2.2.2]
      refine zv_ald hB zd220_138 rfl rfl rfl ?_
      refine zv_ild hB zd220_139 rfl rfl ?_
      obtain ⟨r22, hr22, h⟩ := zi_bind h
      refine zv_cv hB (zv_emq (va2 := [.inr 0, .inl f0]) (F := [.inl e21.1, .inl e21.2.1, .inl f2, .inl e21.2.2.1, .inl e21.2.2.2.1, .inl e21.2.2.2.2.1, .inl e21.2.2.2.2.2.1]) (F' := [.inl e21.1, .inl e21.2.1, .inl f2, .inl e21.2.2.1, .inl e21.2.2.2.1, .inl e21.2.2.2.2.1, .inl e21.2.2.2.2.2.1]) (G := [g0, e21.2.2.2.2.2.2.1, e21.2.2.2.2.2.2.2]) (G' := [g0, e21.2.2.2.2.2.2.1, e21.2.2.2.2.2.2.2]) (ρ := [0, 2]) (φ := [0]) (ψ := [1]) [some 0, none, none, none, none, none, none] [none, some 0, none] zyw_M_hasOpenSum zyw_M_readsSum zye_M_readsSum (by decide +kernel) (zt_M_hasOpenSum hr22) ⟨⟨_, rfl, fun _ => rfl⟩, trivial⟩ ⟨rfl, trivial⟩ rfl rfl rfl rfl rfl rfl rfl) zd220_140 zxt230 rfl (by decide) (by decide) rfl ?_
      refine zv_zeq hB zd220_143 rfl (fun hc23 => ?_) (fun hc23 => ?_)
      · rw [if_pos hc23] at h
        refine zv_ald hB zd220_156 rfl rfl rfl ?_
        refine zv_con hB zd220_157 rfl ?_
        obtain ⟨r24, hr24, h⟩ := zi_bind h
        refine zv_cv hB (zv_emq (va2 := [.inr 0, .inl 1]) (F := [.inl e21.1, .inl e21.2.1, .inl f2, .inl e21.2.2.1, .inl e21.2.2.2.1, .inl e21.2.2.2.2.1, .inl e21.2.2.2.2.2.1]) (F' := [.inl r24.1, .inl e21.2.1, .inl f2, .inl e21.2.2.1, .inl e21.2.2.2.1, .inl r24.2.1, .inl e21.2.2.2.2.2.1]) (G := [g0, e21.2.2.2.2.2.2.1, e21.2.2.2.2.2.2.2]) (G' := [g0, e21.2.2.2.2.2.2.1, r24.2.2]) (ρ := [0, 2, 3]) (φ := [0, 5]) (ψ := [1, 2]) [some 0, none, none, none, none, some 1, none] [none, some 0, some 1] zyw_M_closesSums zyw_M_readsSum zye_M_readsSum (by decide +kernel) (zt_M_closesSums hr24) ⟨⟨_, rfl, fun _ => rfl⟩, ⟨_, rfl, fun _ => rfl⟩, trivial⟩ ⟨rfl, rfl, trivial⟩ rfl rfl rfl rfl rfl rfl rfl) zd220_158 zxt228 rfl (by decide) (by decide) rfl ?_
        refine zv_con hB zd220_161 rfl ?_
        have hw := Option.some.inj h
        subst hw
        exact hret _ _ _ _ _ zd220_162 (by constructor <;> decide) ⟨rfl, rfl, rfl⟩
      · rw [if_neg hc23] at h
        refine zv_ald hB zd220_146 rfl rfl rfl ?_
        refine zv_con hB zd220_147 rfl ?_
        refine zv_ald hB zd220_148 rfl rfl rfl ?_
        refine zv_getf hB zd220_149 rfl rfl (fun _ _ => ?_)
        obtain ⟨r25, hr25, h⟩ := zi_bind h
        refine zv_cv hB (zv_emq (va2 := [.inr 0, .inl 1, .inl e21.2.1]) (F := [.inl e21.1, .inl e21.2.1, .inl f2, .inl e21.2.2.1, .inl e21.2.2.2.1, .inl e21.2.2.2.2.1, .inl e21.2.2.2.2.2.1]) (F' := [.inl e21.1, .inl e21.2.1, .inl f2, .inl e21.2.2.1, .inl r25.2, .inl e21.2.2.2.2.1, .inl e21.2.2.2.2.2.1]) (G := [g0, e21.2.2.2.2.2.2.1, e21.2.2.2.2.2.2.2]) (G' := [g0, e21.2.2.2.2.2.2.1, e21.2.2.2.2.2.2.2]) (ρ := [0]) (φ := [4]) (ψ := []) [none, none, none, none, some 0, none, none] [none, none, none] zyw_M_wrongAt zyw_M_readsSum zye_M_readsSum (by decide +kernel) (zt_M_wrongAt hr25) ⟨⟨_, rfl, fun _ => rfl⟩, trivial⟩ trivial rfl rfl rfl rfl rfl rfl rfl) zd220_152 zxt219 rfl (by decide) (by decide) rfl ?_
        obtain ⟨c26, h⟩ := zi_if h
        have hw := Option.some.inj h
        subst hw
        exact hret _ _ _ _ _ zd220_155 (zi_bo_ok c26) ⟨rfl, rfl, rfl⟩
    · exact Option.some.inj h
  · rw [if_pos hc2] at h
    refine zv_con hB zd220_12 rfl ?_
    have hw := Option.some.inj h
    subst hw
    exact hret _ _ _ _ _ zd220_13 (by constructor <;> decide) ⟨rfl, rfl, rfl⟩
/-! M_endsPiece ()V -/
-- names: 0 StarTalesModel('arg', 0), 1 (0, 220)(0, 12, 15), 2 (0, 220)(0, 12, 14)
-- fields: f0 = 0.waiting_, f1 = 0.codeMany_, f2 = 0.open_; arrays: g0 = 1, g1 = 2; out: [('f', 0), ('f', 1), ('f', 2), ('g', 1)]
abbrev zy_M_endsPiece : zNL := (3, [(0, 12)], [(0, 12, 10, 0), (0, 12, 9, 1), (0, 12, 8, 2)], [(0, 12, 15, 1), (0, 12, 14, 2)], [(1, 0, 220, 0), (2, 0, 220, 1)])
theorem zyw_M_endsPiece : zv_wf zy_M_endsPiece = true := by decide +kernel
theorem zye_M_endsPiece : zv_ek2 zy_M_endsPiece = true := by decide +kernel
def zf_M_endsPiece_l0_b (g0 : (Int → Int)) (rec : Int → Int → Int → (Int → Int) → Option (Int × Int × Int × (Int → Int))) (f0 : Int) (f1 : Int) (f2 : Int) (g1 : (Int → Int)) : Option (Int × Int × Int × (Int → Int)) := (zf_M_waitTop f0 g0).bind fun r1 => (if r1 = 10 then ((zf_M_notes 10 0 f1 g1).bind fun r3 => (rec (zi_w (f0 - 1)) r3.1 (zi_w (f2 - 1)) r3.2)) else (some (f0, f1, f2, g1)))
def zf_M_endsPiece_l0 (g0 : (Int → Int)) : Nat → Int → Int → Int → (Int → Int) → Option (Int × Int × Int × (Int → Int))
  | 0, _, _, _, _ => none
  | n + 1, f0, f1, f2, g1 => zf_M_endsPiece_l0_b g0 (zf_M_endsPiece_l0 g0 n) f0 f1 f2 g1
def zf_M_endsPiece (f0 : Int) (f1 : Int) (f2 : Int) (g0 : (Int → Int)) (g1 : (Int → Int)) : Option (Int × Int × Int × (Int → Int)) := (zf_M_endsPiece_l0 g0 zi_fu f0 f1 f2 g1).bind fun q4 => (some (q4.1, q4.2.1, q4.2.2.1, q4.2.2.2))
theorem zd233_0 : decode zxm233.2.1 0 = .ok (.aload_n 0, 1) := by decide +kernel
theorem zd233_1 : decode zxm233.2.1 1 = .ok (.invokevirtual 209, 3) := by decide +kernel
theorem zd233_4 : decode zxm233.2.1 4 = .ok (.bipush 10, 2) := by decide +kernel
theorem zd233_6 : decode zxm233.2.1 6 = .ok (.if_icmp .ne 33, 3) := by decide +kernel
theorem zd233_9 : decode zxm233.2.1 9 = .ok (.aload_n 0, 1) := by decide +kernel
theorem zd233_10 : decode zxm233.2.1 10 = .ok (.bipush 10, 2) := by decide +kernel
theorem zd233_12 : decode zxm233.2.1 12 = .ok (.iconst 0, 1) := by decide +kernel
theorem zd233_13 : decode zxm233.2.1 13 = .ok (.invokevirtual 212, 3) := by decide +kernel
theorem zd233_16 : decode zxm233.2.1 16 = .ok (.aload_n 0, 1) := by decide +kernel
theorem zd233_17 : decode zxm233.2.1 17 = .ok (.aload_n 0, 1) := by decide +kernel
theorem zd233_18 : decode zxm233.2.1 18 = .ok (.getfield 206, 3) := by decide +kernel
theorem zd233_21 : decode zxm233.2.1 21 = .ok (.iconst 1, 1) := by decide +kernel
theorem zd233_22 : decode zxm233.2.1 22 = .ok (.isub, 1) := by decide +kernel
theorem zd233_23 : decode zxm233.2.1 23 = .ok (.putfield 206, 3) := by decide +kernel
theorem zd233_26 : decode zxm233.2.1 26 = .ok (.aload_n 0, 1) := by decide +kernel
theorem zd233_27 : decode zxm233.2.1 27 = .ok (.aload_n 0, 1) := by decide +kernel
theorem zd233_28 : decode zxm233.2.1 28 = .ok (.getfield 203, 3) := by decide +kernel
theorem zd233_31 : decode zxm233.2.1 31 = .ok (.iconst 1, 1) := by decide +kernel
theorem zd233_32 : decode zxm233.2.1 32 = .ok (.isub, 1) := by decide +kernel
theorem zd233_33 : decode zxm233.2.1 33 = .ok (.putfield 203, 3) := by decide +kernel
theorem zd233_36 : decode zxm233.2.1 36 = .ok (.goto (-36), 3) := by decide +kernel
theorem zd233_39 : decode zxm233.2.1 39 = .ok (.return_, 1) := by decide +kernel
theorem zt_M_endsPiece {f0 : Int} {f1 : Int} {f2 : Int} {g0 : (Int → Int)} {g1 : (Int → Int)} {o : Int × Int × Int × (Int → Int)} (h : zf_M_endsPiece f0 f1 f2 g0 g1 = some o) : zv_Fn z_TB z_cl z_KX zy_M_endsPiece zxm233 (1, 60) [.inr 0] [.inl f0, .inl f1, .inl f2] [g0, g1] none [.inl o.1, .inl o.2.1, .inl o.2.2.1] [g0, o.2.2.2] := zv_meth (K := (z_KF13, z_KC13, z_KL13, z_KT13, [], [], [], none)) (FT := z_FT) (MT := z_MT) (n := 1) zxp233 (z_ks13 _ (fun _ h => List.mem_cons_of_mem _ h) _ _ _ _ (fun j r h _ => by cases h)) (fun _ _ => zs_KX_p) zyw_M_endsPiece (fun va F G h => by obtain ⟨rfl, _⟩ := h; rfl) (fun va F G h => by obtain ⟨rfl, _⟩ := h; rfl) rfl fun good va F G hB hret hvret hP => by
  obtain ⟨rfl, rfl, rfl⟩ := hP
  have l0 : ∀ (n : Nat) (f0 : Int) (f1 : Int) (f2 : Int) (g1 : (Int → Int)) (q : Int × Int × Int × (Int → Int)), zf_M_endsPiece_l0 g0 n f0 f1 f2 g1 = some q → (good 39 [.inr 1000] [] [.inl q.1, .inl q.2.1, .inl q.2.2.1] [g0, q.2.2.2]) → good 0 [.inr 0] [] [.inl f0, .inl f1, .inl f2] [g0, g1] := by
    intro n
    induction n with
    | zero => intro f0 f1 f2 g1 q h; exact absurd (show none = some q from h) (fun h => by cases h)
    | succ n ih =>
      intro f0 f1 f2 g1 q h hK
      replace h : zf_M_endsPiece_l0_b g0 (zf_M_endsPiece_l0 g0 n) f0 f1 f2 g1 = some q := h
      unfold zf_M_endsPiece_l0_b at h
      refine zv_ald hB zd233_0 rfl rfl rfl ?_
      obtain ⟨r1, hr1, h⟩ := zi_bind h
      refine zv_cv hB (zv_emq (va2 := [.inr 0]) (F := [.inl f0, .inl f1, .inl f2]) (F' := [.inl f0, .inl f1, .inl f2]) (G := [g0, g1]) (G' := [g0, g1]) (ρ := [0, 1]) (φ := [0]) (ψ := [0]) [some 0, none, none] [some 0, none] zyw_M_waitTop zyw_M_endsPiece zye_M_endsPiece (by decide +kernel) (zt_M_waitTop hr1) ⟨⟨_, rfl, fun _ => rfl⟩, trivial⟩ ⟨rfl, trivial⟩ rfl rfl rfl rfl rfl rfl rfl) zd233_1 zxt229 rfl (by decide) (by decide) rfl ?_
      refine zv_con hB zd233_4 rfl ?_
      refine zv_cne hB zd233_6 rfl (fun hc2 => ?_) (fun hc2 => ?_)
      · rw [if_neg hc2] at h
        have hq := Option.some.inj h
        subst hq
        refine zv_wk hB (L' := [.inr 1000]) (F' := [.inl f0, .inl f1, .inl f2]) ⟨fun (h : zv_is (.inr 1000)) => (Nat.lt_irrefl 1000 h).elim, trivial⟩ ⟨fun _ => rfl, fun _ => rfl, fun _ => rfl, trivial⟩ ?_
        exact hK
      · rw [if_pos hc2] at h
        refine zv_ald hB zd233_9 rfl rfl rfl ?_
        refine zv_con hB zd233_10 rfl ?_
        refine zv_con hB zd233_12 rfl ?_
        obtain ⟨r3, hr3, h⟩ := zi_bind h
        refine zv_cv hB (zv_emq (va2 := [.inr 0, .inl 10, .inl 0]) (F := [.inl f0, .inl f1, .inl f2]) (F' := [.inl f0, .inl r3.1, .inl f2]) (G := [g0, g1]) (G' := [g0, r3.2]) (ρ := [0, 2]) (φ := [1]) (ψ := [1]) [none, some 0, none] [none, some 0] zyw_M_notes zyw_M_endsPiece zye_M_endsPiece (by decide +kernel) (zt_M_notes hr3) ⟨⟨_, rfl, fun _ => rfl⟩, trivial⟩ ⟨rfl, trivial⟩ rfl rfl rfl rfl rfl rfl rfl) zd233_13 zxt225 rfl (by decide) (by decide) rfl ?_
        refine zv_ald hB zd233_16 rfl rfl rfl ?_
        refine zv_ald hB zd233_17 rfl rfl rfl ?_
        refine zv_getf hB zd233_18 rfl rfl (fun _ _ => ?_)
        refine zv_con hB zd233_21 rfl ?_
        refine zv_subw hB zd233_22 ?_
        refine zv_putf hB zd233_23 rfl rfl (fun h => by cases h) rfl ?_
        refine zv_ald hB zd233_26 rfl rfl rfl ?_
        refine zv_ald hB zd233_27 rfl rfl rfl ?_
        refine zv_getf hB zd233_28 rfl rfl (fun _ _ => ?_)
        refine zv_con hB zd233_31 rfl ?_
        refine zv_subw hB zd233_32 ?_
        refine zv_putf hB zd233_33 rfl rfl (fun h => by cases h) rfl ?_
        refine zv_goto hB zd233_36 rfl ?_
        exact ih _ _ _ _ q h hK
  unfold zf_M_endsPiece at h
  obtain ⟨q4, hq4, h⟩ := zi_bind h
  refine l0 _ _ _ _ _ q4 hq4 ?_
  show good 39 [.inr 1000] [] [.inl q4.1, .inl q4.2.1, .inl q4.2.2.1] [g0, q4.2.2.2]
  have hw := Option.some.inj h
  subst hw
  exact hvret _ _ _ _ zd233_39 trivial ⟨rfl, rfl, rfl⟩
end
