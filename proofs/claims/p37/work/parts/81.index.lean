/-! The place of a letter in the letters. -/
set_option maxRecDepth 20000 in
theorem zl50 : z_lk z_TB "StarTales$LawReader" 0 103 zxm50.1 zxm50.2.1 zxm50.2.2.1 zxm50.2.2.2.1 zxm50.2.2.2.2.1 := ⟨zxh50.1, zxh50.2.1, zxh50.2.2.1, zxh50.2.2.2, (List.mem_filter.mpr ⟨List.mem_of_getElem? (i := 748) (by decide +kernel), rfl⟩), (List.mem_filter.mpr ⟨List.mem_of_getElem? (i := 749) (by decide +kernel), rfl⟩), (List.mem_filter.mpr ⟨List.mem_of_getElem? (i := 750) (by decide +kernel), rfl⟩)⟩
set_option maxRecDepth 20000 in
theorem zl51 : z_lk z_TB "java/lang/String" 0 633 zxm51.1 zxm51.2.1 zxm51.2.2.1 zxm51.2.2.2.1 zxm51.2.2.2.2.1 := ⟨zxh51.1, zxh51.2.1, zxh51.2.2.1, zxh51.2.2.2, (List.mem_filter.mpr ⟨List.mem_of_getElem? (i := 752) (by decide +kernel), rfl⟩), (List.mem_filter.mpr ⟨List.mem_of_getElem? (i := 753) (by decide +kernel), rfl⟩), (List.mem_filter.mpr ⟨List.mem_of_getElem? (i := 754) (by decide +kernel), rfl⟩)⟩
set_option maxRecDepth 20000 in
theorem zl52 : z_lk z_TB "java/lang/String" 0 492 zxm52.1 zxm52.2.1 zxm52.2.2.1 zxm52.2.2.2.1 zxm52.2.2.2.2.1 := ⟨zxh52.1, zxh52.2.1, zxh52.2.2.1, zxh52.2.2.2, (List.mem_filter.mpr ⟨List.mem_of_getElem? (i := 756) (by decide +kernel), rfl⟩), (List.mem_filter.mpr ⟨List.mem_of_getElem? (i := 757) (by decide +kernel), rfl⟩), (List.mem_filter.mpr ⟨List.mem_of_getElem? (i := 758) (by decide +kernel), rfl⟩)⟩
set_option maxRecDepth 20000 in
theorem zl_st : Cond.fieldLink "java/lang/String" 38 "java/lang/String" "COMPACT_STRINGS" "Z" ∈ z_TB := (List.mem_filter.mpr ⟨List.mem_of_getElem? (i := 262) (by decide +kernel), rfl⟩)
set_option maxRecDepth 20000 in
theorem zl_co : Cond.fieldLink "java/lang/String" 15 "java/lang/String" "coder" "B" ∈ z_TB := (List.mem_filter.mpr ⟨List.mem_of_getElem? (i := 2101) (by decide +kernel), rfl⟩)
set_option maxRecDepth 20000 in
theorem zl_va : Cond.fieldLink "java/lang/String" 9 "java/lang/String" "value" "[B" ∈ z_TB := (List.mem_filter.mpr ⟨List.mem_of_getElem? (i := 2100) (by decide +kernel), rfl⟩)
set_option maxRecDepth 20000 in
theorem zl_le : Cond.methodLink "java/lang/String" 505 zs_yL ∈ z_TB := (List.mem_filter.mpr ⟨List.mem_of_getElem? (i := 760) (by decide +kernel), rfl⟩)
section ZINDEX
variable {c fr to : Int}
theorem zh55s {x z : Int} : zn_OK z_TB z_cl z_KX zyL zxm55 (0, 0) (fun va F G => va = [.inl x, .inl z]) (fun va F G r F' G' => F' = F ∧ G' = G ∧ ∃ v, r = some v ∧ x ≤ v ∧ z ≤ v ∧ (v = x ∨ v = z)) := zn_meth (K := (z_KF16, z_KC16, z_KL16, z_KT16, [], [], [], none)) (FT := z_FT) (MT := z_MT) (n := 2) zxp55 (z_ks16 _ (fun _ h => List.mem_cons_of_mem _ h) _ _ _ _ (fun j r h _ => by cases h)) (fun _ _ => zs_KX_p) (by decide +kernel) (fun va F G h => by obtain ⟨rfl, _⟩ := h; rfl) rfl fun good va F G hB hret hvret hP => by
  subst hP
  refine zn_ild hB zd55_0 rfl rfl ?_
  refine zn_ild hB zd55_1 rfl rfl ?_
  refine zn_clt hB zd55_2 rfl (fun h2 => ?_) (fun h2 => ?_)
  · refine zn_ild hB zd55_9 rfl rfl ?_
    exact hret _ _ _ _ _ zd55_10 trivial ⟨rfl, rfl, _, rfl, by omega, by omega, by omega⟩
  · refine zn_ild hB zd55_5 rfl rfl ?_
    refine zn_goto hB zd55_6 rfl ?_
    exact hret _ _ _ _ _ zd55_10 trivial ⟨rfl, rfl, _, rfl, by omega, by omega, by omega⟩
theorem zd37_0 : decode zxm37.2.1 0 = .ok (.iload_n 0, 1) := by decide +kernel
theorem zd37_1 : decode zxm37.2.1 1 = .ok (.iload_n 1, 1) := by decide +kernel
theorem zd37_2 : decode zxm37.2.1 2 = .ok (.if_icmp .gt 7, 3) := by decide +kernel
theorem zd37_5 : decode zxm37.2.1 5 = .ok (.iload_n 0, 1) := by decide +kernel
theorem zd37_6 : decode zxm37.2.1 6 = .ok (.goto 4, 3) := by decide +kernel
theorem zd37_9 : decode zxm37.2.1 9 = .ok (.iload_n 1, 1) := by decide +kernel
theorem zd37_10 : decode zxm37.2.1 10 = .ok (.ireturn, 1) := by decide +kernel
theorem zh37s {x z : Int} : zn_OK z_TB z_cl z_KX zyL zxm37 (0, 0) (fun va F G => va = [.inl x, .inl z]) (fun va F G r F' G' => F' = F ∧ G' = G ∧ ∃ v, r = some v ∧ v ≤ x ∧ v ≤ z ∧ (v = x ∨ v = z)) := zn_meth (K := (z_KF16, z_KC16, z_KL16, z_KT16, [], [], [], none)) (FT := z_FT) (MT := z_MT) (n := 2) zxp37 (z_ks16 _ (fun _ h => List.mem_cons_of_mem _ h) _ _ _ _ (fun j r h _ => by cases h)) (fun _ _ => zs_KX_p) (by decide +kernel) (fun va F G h => by obtain ⟨rfl, _⟩ := h; rfl) rfl fun good va F G hB hret hvret hP => by
  subst hP
  refine zn_ild hB zd37_0 rfl rfl ?_
  refine zn_ild hB zd37_1 rfl rfl ?_
  refine zn_cgt hB zd37_2 rfl (fun h2 => ?_) (fun h2 => ?_)
  · refine zn_ild hB zd37_9 rfl rfl ?_
    exact hret _ _ _ _ _ zd37_10 trivial ⟨rfl, rfl, _, rfl, by omega, by omega, by omega⟩
  · refine zn_ild hB zd37_5 rfl rfl ?_
    refine zn_goto hB zd37_6 rfl ?_
    exact hret _ _ _ _ _ zd37_10 trivial ⟨rfl, rfl, _, rfl, by omega, by omega, by omega⟩
theorem zd54_0 : decode zxm54.2.1 0 = .ok (.iload_n 0, 1) := by decide +kernel
theorem zd54_1 : decode zxm54.2.1 1 = .ok (.ifCond .lt 14, 3) := by decide +kernel
theorem zd54_4 : decode zxm54.2.1 4 = .ok (.iload_n 0, 1) := by decide +kernel
theorem zd54_5 : decode zxm54.2.1 5 = .ok (.sipush 255, 3) := by decide +kernel
theorem zd54_8 : decode zxm54.2.1 8 = .ok (.if_icmp .gt 7, 3) := by decide +kernel
theorem zd54_11 : decode zxm54.2.1 11 = .ok (.iconst 1, 1) := by decide +kernel
theorem zd54_12 : decode zxm54.2.1 12 = .ok (.goto 4, 3) := by decide +kernel
theorem zd54_15 : decode zxm54.2.1 15 = .ok (.iconst 0, 1) := by decide +kernel
theorem zd54_16 : decode zxm54.2.1 16 = .ok (.ireturn, 1) := by decide +kernel
theorem zh54  : zn_OK z_TB z_cl z_KX zyL zxm54 (0, 0) (fun va F G => va = [.inl c]) (fun va F G r F' G' => F' = F ∧ G' = G ∧ (r = some 0 ∨ r = some 1)) := zn_meth (K := (z_KF18, z_KC18, z_KL18, z_KT18, [], [], [], none)) (FT := z_FT) (MT := z_MT) (n := 1) zxp54 (z_ks18 _ (fun _ h => List.mem_cons_of_mem _ h) _ _ _ _ (fun j r h _ => by cases h)) (fun _ _ => zs_KX_p) (by decide +kernel) (fun va F G h => by obtain ⟨rfl, _⟩ := h; rfl) rfl fun good va F G hB hret hvret hP => by
  subst hP
  refine zn_ild hB zd54_0 rfl rfl ?_
  refine zn_zlt hB zd54_1 rfl (fun h1 => ?_) (fun h1 => ?_)
  · refine zn_con hB zd54_15 rfl ?_
    refine hret _ _ _ _ _ zd54_16 (by constructor <;> decide) ⟨rfl, rfl, ?_⟩
    first | exact Or.inl rfl | exact Or.inr rfl
  · refine zn_ild hB zd54_4 rfl rfl ?_
    refine zn_con hB zd54_5 rfl ?_
    refine zn_cgt hB zd54_8 rfl (fun h8 => ?_) (fun h8 => ?_)
    · refine zn_con hB zd54_15 rfl ?_
      refine hret _ _ _ _ _ zd54_16 (by constructor <;> decide) ⟨rfl, rfl, ?_⟩
      first | exact Or.inl rfl | exact Or.inr rfl
    · refine zn_con hB zd54_11 rfl ?_
      refine zn_goto hB zd54_12 rfl ?_
      refine hret _ _ _ _ _ zd54_16 (by constructor <;> decide) ⟨rfl, rfl, ?_⟩
      first | exact Or.inl rfl | exact Or.inr rfl
theorem zd56_0 : decode zxm56.2.1 0 = .ok (.iload_n 1, 1) := by decide +kernel
theorem zd56_1 : decode zxm56.2.1 1 = .ok (.i2b, 1) := by decide +kernel
theorem zd56_2 : decode zxm56.2.1 2 = .ok (.istore 4, 2) := by decide +kernel
theorem zd56_4 : decode zxm56.2.1 4 = .ok (.iload_n 2, 1) := by decide +kernel
theorem zd56_5 : decode zxm56.2.1 5 = .ok (.istore 5, 2) := by decide +kernel
theorem zd56_7 : decode zxm56.2.1 7 = .ok (.iload 5, 2) := by decide +kernel
theorem zd56_9 : decode zxm56.2.1 9 = .ok (.iload_n 3, 1) := by decide +kernel
theorem zd56_10 : decode zxm56.2.1 10 = .ok (.if_icmp .ge 21, 3) := by decide +kernel
theorem zd56_13 : decode zxm56.2.1 13 = .ok (.aload_n 0, 1) := by decide +kernel
theorem zd56_14 : decode zxm56.2.1 14 = .ok (.iload 5, 2) := by decide +kernel
theorem zd56_16 : decode zxm56.2.1 16 = .ok (.baload, 1) := by decide +kernel
theorem zd56_17 : decode zxm56.2.1 17 = .ok (.iload 4, 2) := by decide +kernel
theorem zd56_19 : decode zxm56.2.1 19 = .ok (.if_icmp .ne 6, 3) := by decide +kernel
theorem zd56_22 : decode zxm56.2.1 22 = .ok (.iload 5, 2) := by decide +kernel
theorem zd56_24 : decode zxm56.2.1 24 = .ok (.ireturn, 1) := by decide +kernel
theorem zd56_25 : decode zxm56.2.1 25 = .ok (.iinc 5 1, 3) := by decide +kernel
theorem zd56_28 : decode zxm56.2.1 28 = .ok (.goto (-21), 3) := by decide +kernel
theorem zd56_31 : decode zxm56.2.1 31 = .ok (.iconst (-1), 1) := by decide +kernel
theorem zd56_32 : decode zxm56.2.1 32 = .ok (.ireturn, 1) := by decide +kernel
theorem zh56  : zn_OK z_TB z_cl z_KX zyL zxm56 (0, 0) (fun va F G => va = [.inr 903, .inl c, .inl fr, .inl to] ∧ 0 ≤ fr ∧ to ≤ 13) (fun va F G r F' G' => F' = F ∧ G' = G ∧ ∃ v, r = some v ∧ -1 ≤ v ∧ v ≤ 12) := zn_meth (K := (z_KF18, z_KC18, z_KL18, z_KT18, [], [], [], none)) (FT := z_FT) (MT := z_MT) (n := 4) zxp56 (z_ks18 _ (fun _ h => List.mem_cons_of_mem _ h) _ _ _ _ (fun j r h _ => by cases h)) (fun _ _ => zs_KX_p) (by decide +kernel) (fun va F G h => by obtain ⟨rfl, _⟩ := h; rfl) rfl fun good va F G hB hret hvret hP => by
  obtain ⟨rfl, h0, h1⟩ := hP
  have key : ∀ (m : Nat) (b k : Int), 13 - k < m → 0 ≤ k → good 7 [.inr 903, .inl c, .inl fr, .inl to, .inl b, .inl k] [] F G := by
    intro m
    induction m with
    | zero =>
      intro b k c1 c2
      refine zn_ild hB zd56_7 rfl rfl ?_
      refine zn_ild hB zd56_9 rfl rfl ?_
      refine zn_cge hB zd56_10 rfl (fun h10 => ?_) (fun h10 => ?_)
      · refine zn_con hB zd56_31 rfl ?_
        exact hret _ _ _ _ _ zd56_32 trivial ⟨rfl, rfl, _, rfl, by omega, by omega⟩
      · exfalso; omega
    | succ m ih =>
      intro b k c1 c2
      refine zn_ild hB zd56_7 rfl rfl ?_
      refine zn_ild hB zd56_9 rfl rfl ?_
      refine zn_cge hB zd56_10 rfl (fun h10 => ?_) (fun h10 => ?_)
      · refine zn_con hB zd56_31 rfl ?_
        exact hret _ _ _ _ _ zd56_32 trivial ⟨rfl, rfl, _, rfl, by omega, by omega⟩
      · refine zn_ald hB zd56_13 rfl rfl rfl ?_
        refine zn_ild hB zd56_14 rfl rfl ?_
        refine zt_bald hB (by omega) (by show k < ((13 : Nat) : Int); omega) zd56_16 (fun v16 => ?_)
        refine zn_ild hB zd56_17 rfl rfl ?_
        refine zn_cne hB zd56_19 rfl (fun h19 => ?_) (fun h19 => ?_)
        · refine zn_iinc hB zd56_25 rfl rfl (by omega) (by omega) ?_
          refine zn_goto hB zd56_28 rfl ?_
          exact ih _ _ (by omega) (by omega)
        · refine zn_ild hB zd56_22 rfl rfl ?_
          exact hret _ _ _ _ _ zd56_24 trivial ⟨rfl, rfl, _, rfl, by omega, by omega⟩
  refine zn_ild hB zd56_0 rfl rfl ?_
  refine zt_i2b hB zd56_1 (fun v1 => ?_)
  refine zn_ist hB zd56_2 rfl rfl rfl ?_
  refine zn_ild hB zd56_4 rfl rfl ?_
  refine zn_ist hB zd56_5 rfl rfl rfl ?_
  exact key 15 _ _ (by omega) (by omega)
theorem zd53_0 : decode zxm53.2.1 0 = .ok (.iload_n 1, 1) := by decide +kernel
theorem zd53_1 : decode zxm53.2.1 1 = .ok (.invokestatic 88, 3) := by decide +kernel
theorem zd53_4 : decode zxm53.2.1 4 = .ok (.ifCond .ne 5, 3) := by decide +kernel
theorem zd53_7 : decode zxm53.2.1 7 = .ok (.iconst (-1), 1) := by decide +kernel
theorem zd53_8 : decode zxm53.2.1 8 = .ok (.ireturn, 1) := by decide +kernel
theorem zd53_9 : decode zxm53.2.1 9 = .ok (.iload_n 2, 1) := by decide +kernel
theorem zd53_10 : decode zxm53.2.1 10 = .ok (.iconst 0, 1) := by decide +kernel
theorem zd53_11 : decode zxm53.2.1 11 = .ok (.invokestatic 92, 3) := by decide +kernel
theorem zd53_14 : decode zxm53.2.1 14 = .ok (.istore_n 2, 1) := by decide +kernel
theorem zd53_15 : decode zxm53.2.1 15 = .ok (.iload_n 3, 1) := by decide +kernel
theorem zd53_16 : decode zxm53.2.1 16 = .ok (.aload_n 0, 1) := by decide +kernel
theorem zd53_17 : decode zxm53.2.1 17 = .ok (.arraylength, 1) := by decide +kernel
theorem zd53_18 : decode zxm53.2.1 18 = .ok (.invokestatic 38, 3) := by decide +kernel
theorem zd53_21 : decode zxm53.2.1 21 = .ok (.istore_n 3, 1) := by decide +kernel
theorem zd53_22 : decode zxm53.2.1 22 = .ok (.iload_n 2, 1) := by decide +kernel
theorem zd53_23 : decode zxm53.2.1 23 = .ok (.iload_n 3, 1) := by decide +kernel
theorem zd53_24 : decode zxm53.2.1 24 = .ok (.if_icmp .lt 5, 3) := by decide +kernel
theorem zd53_27 : decode zxm53.2.1 27 = .ok (.iconst (-1), 1) := by decide +kernel
theorem zd53_28 : decode zxm53.2.1 28 = .ok (.ireturn, 1) := by decide +kernel
theorem zd53_29 : decode zxm53.2.1 29 = .ok (.aload_n 0, 1) := by decide +kernel
theorem zd53_30 : decode zxm53.2.1 30 = .ok (.iload_n 1, 1) := by decide +kernel
theorem zd53_31 : decode zxm53.2.1 31 = .ok (.iload_n 2, 1) := by decide +kernel
theorem zd53_32 : decode zxm53.2.1 32 = .ok (.iload_n 3, 1) := by decide +kernel
theorem zd53_33 : decode zxm53.2.1 33 = .ok (.invokestatic 95, 3) := by decide +kernel
theorem zd53_36 : decode zxm53.2.1 36 = .ok (.ireturn, 1) := by decide +kernel
theorem zh53  : zn_OK z_TB z_cl z_KX zyL zxm53 (1, 60) (fun va F G => va = [.inr 903, .inl c, .inl 0, .inl 13]) (fun va F G r F' G' => F' = F ∧ G' = G ∧ ∃ v, r = some v ∧ -1 ≤ v ∧ v ≤ 12) := zn_meth (K := (z_KF18, z_KC18, z_KL18, z_KT18, [], [], [], none)) (FT := z_FT) (MT := z_MT) (n := 4) zxp53 (z_ks18 _ (fun _ h => List.mem_cons_of_mem _ h) _ _ _ _ (fun j r h _ => by cases h)) (fun _ _ => zs_KX_p) (by decide +kernel) (fun va F G h => by obtain ⟨rfl, _⟩ := h; rfl) rfl fun good va F G hB hret hvret hP => by
  subst hP
  refine zn_ild hB zd53_0 rfl rfl ?_
  refine zn_it1 hB zh54 zd53_1 zxt54 rfl rfl (fun r1 F1 G1 hq1 => ?_)
  obtain ⟨rfl, rfl, hx1⟩ := hq1
  rcases hx1 with rfl | rfl
  · refine zn_zne hB zd53_4 rfl (fun h4 => ?_) (fun h4 => ?_)
    · exfalso; omega
    · refine zn_con hB zd53_7 rfl ?_
      exact hret _ _ _ _ _ zd53_8 trivial ⟨rfl, rfl, _, rfl, by omega, by omega⟩
  · refine zn_zne hB zd53_4 rfl (fun h4 => ?_) (fun h4 => ?_)
    · refine zn_ild hB zd53_9 rfl rfl ?_
      refine zn_con hB zd53_10 rfl ?_
      refine zn_it2 hB zh55s zd53_11 zxt55 rfl rfl (fun r11 F11 G11 hq11 => ?_)
      obtain ⟨rfl, rfl, v, rfl, v1, v2, v3⟩ := hq11
      refine zn_ist hB zd53_14 rfl rfl rfl ?_
      refine zn_ild hB zd53_15 rfl rfl ?_
      refine zn_ald hB zd53_16 rfl rfl rfl ?_
      refine zt_len hB (by omega) zd53_17 ?_
      refine zn_it2 hB zh37s zd53_18 zxt37 rfl rfl (fun r18 F18 G18 hq18 => ?_)
      obtain ⟨rfl, rfl, u, rfl, u1, u2, u3⟩ := hq18
      refine zn_ist hB zd53_21 rfl rfl rfl ?_
      refine zn_ild hB zd53_22 rfl rfl ?_
      refine zn_ild hB zd53_23 rfl rfl ?_
      refine zn_clt hB zd53_24 rfl (fun h24 => ?_) (fun h24 => ?_)
      · refine zn_ald hB zd53_29 rfl rfl rfl ?_
        refine zn_ild hB zd53_30 rfl rfl ?_
        refine zn_ild hB zd53_31 rfl rfl ?_
        refine zn_ild hB zd53_32 rfl rfl ?_
        refine zn_it4 hB zh56 zd53_33 zxt56 rfl ⟨rfl, by omega, by omega⟩ (fun r33 F33 G33 hq33 => ?_)
        obtain ⟨rfl, rfl, x, rfl, x1, x2⟩ := hq33
        exact hret _ _ _ _ _ zd53_36 trivial ⟨rfl, rfl, _, rfl, by omega, by omega⟩
      · refine zn_con hB zd53_27 rfl ?_
        exact hret _ _ _ _ _ zd53_28 trivial ⟨rfl, rfl, _, rfl, by omega, by omega⟩
    · exfalso; omega
theorem zd52_0 : decode zxm52.2.1 0 = .ok (.getstatic 38, 3) := by decide +kernel
theorem zd52_3 : decode zxm52.2.1 3 = .ok (.ifCond .eq 14, 3) := by decide +kernel
theorem zd52_6 : decode zxm52.2.1 6 = .ok (.aload_n 0, 1) := by decide +kernel
theorem zd52_7 : decode zxm52.2.1 7 = .ok (.getfield 15, 3) := by decide +kernel
theorem zd52_10 : decode zxm52.2.1 10 = .ok (.ifCond .ne 7, 3) := by decide +kernel
theorem zd52_13 : decode zxm52.2.1 13 = .ok (.iconst 1, 1) := by decide +kernel
theorem zd52_14 : decode zxm52.2.1 14 = .ok (.goto 4, 3) := by decide +kernel
theorem zd52_18 : decode zxm52.2.1 18 = .ok (.ireturn, 1) := by decide +kernel
theorem zh52  : zn_OK z_TB z_cl z_KX zyL zxm52 (0, 0) (fun va F G => va = [.inr 902]) (fun va F G r F' G' => F' = F ∧ G' = G ∧ r = some 1) := zn_meth (K := (z_KF17, z_KC17, z_KL17, z_KT17, [], [], [], none)) (FT := z_FT) (MT := z_MT) (n := 1) zxp52 (z_ks17 _ (fun _ h => List.mem_cons_of_mem _ h) _ _ _ _ (fun j r h _ => by cases h)) (fun _ _ => zs_KX_p) (by decide +kernel) (fun va F G h => by obtain ⟨rfl, _⟩ := h; rfl) rfl fun good va F G hB hret hvret hP => by
  subst hP
  refine zt_stat hB zl_st zd52_0 ?_
  refine zn_zeq hB zd52_3 rfl (fun h3 => ?_) (fun h3 => ?_)
  · exfalso; omega
  · refine zn_ald hB zd52_6 rfl rfl rfl ?_
    refine zt_coder hB zl_co zd52_7 ?_
    refine zn_zne hB zd52_10 rfl (fun h10 => ?_) (fun h10 => ?_)
    · exfalso; omega
    · refine zn_con hB zd52_13 rfl ?_
      refine zn_goto hB zd52_14 rfl ?_
      exact hret _ _ _ _ _ zd52_18 (by constructor <;> decide) ⟨rfl, rfl, rfl⟩
theorem zd51_0 : decode zxm51.2.1 0 = .ok (.aload_n 0, 1) := by decide +kernel
theorem zd51_1 : decode zxm51.2.1 1 = .ok (.invokevirtual 492, 3) := by decide +kernel
theorem zd51_4 : decode zxm51.2.1 4 = .ok (.ifCond .eq 19, 3) := by decide +kernel
theorem zd51_7 : decode zxm51.2.1 7 = .ok (.aload_n 0, 1) := by decide +kernel
theorem zd51_8 : decode zxm51.2.1 8 = .ok (.getfield 9, 3) := by decide +kernel
theorem zd51_11 : decode zxm51.2.1 11 = .ok (.iload_n 1, 1) := by decide +kernel
theorem zd51_12 : decode zxm51.2.1 12 = .ok (.iload_n 2, 1) := by decide +kernel
theorem zd51_13 : decode zxm51.2.1 13 = .ok (.aload_n 0, 1) := by decide +kernel
theorem zd51_14 : decode zxm51.2.1 14 = .ok (.invokevirtual 505, 3) := by decide +kernel
theorem zd51_17 : decode zxm51.2.1 17 = .ok (.invokestatic 637, 3) := by decide +kernel
theorem zd51_20 : decode zxm51.2.1 20 = .ok (.goto 16, 3) := by decide +kernel
theorem zd51_36 : decode zxm51.2.1 36 = .ok (.ireturn, 1) := by decide +kernel
theorem zh51  : zn_OK z_TB z_cl z_KX zyL zxm51 (2, 120) (fun va F G => va = [.inr 902, .inl c, .inl 0]) (fun va F G r F' G' => F' = F ∧ G' = G ∧ ∃ v, r = some v ∧ -1 ≤ v ∧ v ≤ 12) := zn_meth (K := (z_KF17, z_KC17, z_KL17, z_KT17, [], [], [], none)) (FT := z_FT) (MT := z_MT) (n := 3) zxp51 (z_ks17 _ (fun _ h => List.mem_cons_of_mem _ h) _ _ _ _ (fun j r h _ => by cases h)) (fun _ _ => zs_KX_p) (by decide +kernel) (fun va F G h => by obtain ⟨rfl, _⟩ := h; rfl) rfl fun good va F G hB hret hvret hP => by
  subst hP
  refine zn_ald hB zd51_0 rfl rfl rfl ?_
  refine zt_inv (va := []) hB zh52 zl52 rfl zd51_1 rfl rfl (by decide) (by decide) rfl (fun r1 F1 G1 hq1 => ?_)
  obtain ⟨rfl, rfl, rfl⟩ := hq1
  refine zn_zeq hB zd51_4 rfl (fun h4 => ?_) (fun h4 => ?_)
  · exfalso; omega
  · refine zn_ald hB zd51_7 rfl rfl rfl ?_
    refine zt_value hB zl_va zd51_8 ?_
    refine zn_ild hB zd51_11 rfl rfl ?_
    refine zn_ild hB zd51_12 rfl rfl ?_
    refine zn_ald hB zd51_13 rfl rfl rfl ?_
    refine zt_length hB zs_wt (by omega) zl_le zd51_14 rfl (by decide) (by decide) ?_
    refine zn_it4 hB (zh53 (c := c)) zd51_17 zxt53 rfl rfl (fun r17 F17 G17 hq17 => ?_)
    obtain ⟨rfl, rfl, x, rfl, x1, x2⟩ := hq17
    refine zn_goto hB zd51_20 rfl ?_
    exact hret _ _ _ _ _ zd51_36 trivial ⟨rfl, rfl, _, rfl, x1, x2⟩
theorem zd50_0 : decode zxm50.2.1 0 = .ok (.aload_n 0, 1) := by decide +kernel
theorem zd50_1 : decode zxm50.2.1 1 = .ok (.iload_n 1, 1) := by decide +kernel
theorem zd50_2 : decode zxm50.2.1 2 = .ok (.iconst 0, 1) := by decide +kernel
theorem zd50_3 : decode zxm50.2.1 3 = .ok (.invokevirtual 633, 3) := by decide +kernel
theorem zd50_6 : decode zxm50.2.1 6 = .ok (.ireturn, 1) := by decide +kernel
theorem zh50  : zn_OK z_TB z_cl z_KX zyL zxm50 (3, 180) (fun va F G => va = [.inr 902, .inl c]) (fun va F G r F' G' => F' = F ∧ G' = G ∧ ∃ v, r = some v ∧ -1 ≤ v ∧ v ≤ 12) := zn_meth (K := (z_KF17, z_KC17, z_KL17, z_KT17, [], [], [], none)) (FT := z_FT) (MT := z_MT) (n := 2) zxp50 (z_ks17 _ (fun _ h => List.mem_cons_of_mem _ h) _ _ _ _ (fun j r h _ => by cases h)) (fun _ _ => zs_KX_p) (by decide +kernel) (fun va F G h => by obtain ⟨rfl, _⟩ := h; rfl) rfl fun good va F G hB hret hvret hP => by
  subst hP
  refine zn_ald hB zd50_0 rfl rfl rfl ?_
  refine zn_ild hB zd50_1 rfl rfl ?_
  refine zn_con hB zd50_2 rfl ?_
  refine zt_inv (va := [.inl c, .inl 0]) hB zh51 zl51 rfl zd50_3 rfl rfl (by decide) (by decide) rfl (fun r1 F1 G1 hq1 => ?_)
  obtain ⟨rfl, rfl, x, rfl, x1, x2⟩ := hq1
  exact hret _ _ _ _ _ zd50_6 trivial ⟨rfl, rfl, _, rfl, x1, x2⟩
theorem zd45_82 : decode zxm45.2.1 82 = .ok (.iload_n 2, 1) := by decide +kernel
theorem zd45_83 : decode zxm45.2.1 83 = .ok (.i2c, 1) := by decide +kernel
theorem zd45_84 : decode zxm45.2.1 84 = .ok (.invokevirtual 103, 3) := by decide +kernel
theorem zr_ix_ok : zr_ix := by
  intro rm good hB h1 h2 L F G x hl k
  refine zn_ldcs hB zd45_80 ?_
  refine zn_ild hB zd45_82 rfl hl ?_
  refine zt_i2c hB zd45_83 (fun v => ?_)
  refine zt_inv (va := [.inl v]) (S := []) hB zh50 zl50 rfl zd45_84 rfl rfl (by show 3 + 1 ≤ _; omega) (by show 8 + (2 + 11) + 180 ≤ _; omega) rfl (fun r F' G' hq => ?_)
  obtain ⟨rfl, rfl, w, rfl, w1, w2⟩ := hq
  exact k w w1 w2
end ZINDEX
