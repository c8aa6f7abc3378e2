/-! Methods as functions, and that they do what these do. -/
-- 0: StarTales$Sky.hasStar(I)Z
-- names: 0 Sky('arg', 0)
-- fields: f0 = 0.told; arrays: ; out: [('ret', None)]
abbrev zy0 : zNL := (1, [(0, 1)], [(0, 1, 0, 0)], [], [])
theorem zyw0 : zv_wf zy0 = true := by decide +kernel
theorem zye0 : zv_ek2 zy0 = true := by decide +kernel
def zf0 (x1 : Int) (f0 : Int) : Option (Int) := if x1 < 0 then (some 0) else (if x1 < 24 then (if (zi_and (zi_shr f0 x1) 1) = 0 then (some 0) else (some 1)) else (some 0))
theorem zd18_0 : decode zxm18.2.1 0 = .ok (.iload_n 1, 1) := by decide +kernel
theorem zd18_1 : decode zxm18.2.1 1 = .ok (.ifCond .lt 24, 3) := by decide +kernel
theorem zd18_4 : decode zxm18.2.1 4 = .ok (.iload_n 1, 1) := by decide +kernel
theorem zd18_5 : decode zxm18.2.1 5 = .ok (.bipush 24, 2) := by decide +kernel
theorem zd18_7 : decode zxm18.2.1 7 = .ok (.if_icmp .ge 18, 3) := by decide +kernel
theorem zd18_10 : decode zxm18.2.1 10 = .ok (.aload_n 0, 1) := by decide +kernel
theorem zd18_11 : decode zxm18.2.1 11 = .ok (.getfield 9, 3) := by decide +kernel
theorem zd18_14 : decode zxm18.2.1 14 = .ok (.iload_n 1, 1) := by decide +kernel
theorem zd18_15 : decode zxm18.2.1 15 = .ok (.ishr, 1) := by decide +kernel
theorem zd18_16 : decode zxm18.2.1 16 = .ok (.iconst 1, 1) := by decide +kernel
theorem zd18_17 : decode zxm18.2.1 17 = .ok (.iand, 1) := by decide +kernel
theorem zd18_18 : decode zxm18.2.1 18 = .ok (.ifCond .eq 7, 3) := by decide +kernel
theorem zd18_21 : decode zxm18.2.1 21 = .ok (.iconst 1, 1) := by decide +kernel
theorem zd18_22 : decode zxm18.2.1 22 = .ok (.goto 4, 3) := by decide +kernel
theorem zd18_25 : decode zxm18.2.1 25 = .ok (.iconst 0, 1) := by decide +kernel
theorem zd18_26 : decode zxm18.2.1 26 = .ok (.ireturn, 1) := by decide +kernel
theorem zt0 {x1 : Int} {f0 : Int} {o : Int} (h : zf0 x1 f0 = some o) : zv_Fn z_TB z_cl z_KX zy0 zxm18 (0, 0) [.inr 0, .inl x1] [.inl f0] [] (some o) [.inl f0] [] := zv_meth (K := (z_KF8, z_KC8, z_KL8, z_KT8, [], [], [], none)) (FT := z_FT) (MT := z_MT) (n := 2) zxp18 (z_ks8 _ (fun _ h => List.mem_cons_of_mem _ h) _ _ _ _ (fun j r h _ => by cases h)) (fun _ _ => zs_KX_p) zyw0 (fun va F G h => by obtain ⟨rfl, _⟩ := h; rfl) rfl fun good va F G hB hret hvret hP => by
  obtain ⟨rfl, rfl, rfl⟩ := hP
  unfold zf0 at h
  refine zv_ild hB zd18_0 rfl rfl ?_
  refine zv_zlt hB zd18_1 rfl (fun hc1 => ?_) (fun hc1 => ?_)
  · rw [if_pos hc1] at h
    refine zv_con hB zd18_25 rfl ?_
    have hw := Option.some.inj h
    subst hw
    exact hret _ _ _ _ _ zd18_26 (by constructor <;> decide) ⟨rfl, rfl, rfl⟩
  · rw [if_neg (Int.not_lt.mpr hc1)] at h
    refine zv_ild hB zd18_4 rfl rfl ?_
    refine zv_con hB zd18_5 rfl ?_
    refine zv_cge hB zd18_7 rfl (fun hc2 => ?_) (fun hc2 => ?_)
    · rw [if_neg (Int.not_lt.mpr hc2)] at h
      refine zv_con hB zd18_25 rfl ?_
      have hw := Option.some.inj h
      subst hw
      exact hret _ _ _ _ _ zd18_26 (by constructor <;> decide) ⟨rfl, rfl, rfl⟩
    · rw [if_pos hc2] at h
      refine zv_ald hB zd18_10 rfl rfl rfl ?_
      refine zv_getf hB zd18_11 rfl rfl (fun _ _ => ?_)
      refine zv_ild hB zd18_14 rfl rfl ?_
      refine zv_shrw hB zd18_15 ?_
      refine zv_con hB zd18_16 rfl ?_
      refine zv_andw hB zd18_17 ?_
      refine zv_zeq hB zd18_18 rfl (fun hc3 => ?_) (fun hc3 => ?_)
      · rw [if_pos hc3] at h
        refine zv_con hB zd18_25 rfl ?_
        have hw := Option.some.inj h
        subst hw
        exact hret _ _ _ _ _ zd18_26 (by constructor <;> decide) ⟨rfl, rfl, rfl⟩
      · rw [if_neg hc3] at h
        refine zv_con hB zd18_21 rfl ?_
        refine zv_goto hB zd18_22 rfl ?_
        have hw := Option.some.inj h
        subst hw
        exact hret _ _ _ _ _ zd18_26 (by constructor <;> decide) ⟨rfl, rfl, rfl⟩
-- 1: StarTales.isWithin(III)Z
-- names: 
-- fields: ; arrays: ; out: [('ret', None)]
abbrev zy1 : zNL := (0, [], [], [], [])
theorem zyw1 : zv_wf zy1 = true := by decide +kernel
theorem zye1 : zv_ek2 zy1 = true := by decide +kernel
def zf1 (x0 : Int) (x1 : Int) (x2 : Int) : Option (Int) := if x0 < x1 then (some 0) else (if x2 < x0 then (some 0) else (some 1))
theorem zd15_0 : decode zxm15.2.1 0 = .ok (.iload_n 0, 1) := by decide +kernel
theorem zd15_1 : decode zxm15.2.1 1 = .ok (.iload_n 1, 1) := by decide +kernel
theorem zd15_2 : decode zxm15.2.1 2 = .ok (.if_icmp .lt 12, 3) := by decide +kernel
theorem zd15_5 : decode zxm15.2.1 5 = .ok (.iload_n 0, 1) := by decide +kernel
theorem zd15_6 : decode zxm15.2.1 6 = .ok (.iload_n 2, 1) := by decide +kernel
theorem zd15_7 : decode zxm15.2.1 7 = .ok (.if_icmp .gt 7, 3) := by decide +kernel
theorem zd15_10 : decode zxm15.2.1 10 = .ok (.iconst 1, 1) := by decide +kernel
theorem zd15_11 : decode zxm15.2.1 11 = .ok (.goto 4, 3) := by decide +kernel
theorem zd15_14 : decode zxm15.2.1 14 = .ok (.iconst 0, 1) := by decide +kernel
theorem zd15_15 : decode zxm15.2.1 15 = .ok (.ireturn, 1) := by decide +kernel
theorem zt1 {x0 : Int} {x1 : Int} {x2 : Int} {o : Int} (h : zf1 x0 x1 x2 = some o) : zv_Fn z_TB z_cl z_KX zy1 zxm15 (0, 0) [.inl x0, .inl x1, .inl x2] [] [] (some o) [] [] := zv_meth (K := (z_KF0, z_KC0, z_KL0, z_KT0, [], [], [], none)) (FT := z_FT) (MT := z_MT) (n := 3) zxp15 (z_ks0 _ (fun _ h => List.mem_cons_of_mem _ h) _ _ _ _ (fun j r h _ => by cases h)) (fun _ _ => zs_KX_p) zyw1 (fun va F G h => by obtain ⟨rfl, _⟩ := h; rfl) rfl fun good va F G hB hret hvret hP => by
  obtain ⟨rfl, rfl, rfl⟩ := hP
  unfold zf1 at h
  refine zv_ild hB zd15_0 rfl rfl ?_
  refine zv_ild hB zd15_1 rfl rfl ?_
  refine zv_clt hB zd15_2 rfl (fun hc1 => ?_) (fun hc1 => ?_)
  · rw [if_pos hc1] at h
    refine zv_con hB zd15_14 rfl ?_
    have hw := Option.some.inj h
    subst hw
    exact hret _ _ _ _ _ zd15_15 (by constructor <;> decide) ⟨rfl, rfl, rfl⟩
  · rw [if_neg (Int.not_lt.mpr hc1)] at h
    refine zv_ild hB zd15_5 rfl rfl ?_
    refine zv_ild hB zd15_6 rfl rfl ?_
    refine zv_cgt hB zd15_7 rfl (fun hc2 => ?_) (fun hc2 => ?_)
    · rw [if_pos hc2] at h
      refine zv_con hB zd15_14 rfl ?_
      have hw := Option.some.inj h
      subst hw
      exact hret _ _ _ _ _ zd15_15 (by constructor <;> decide) ⟨rfl, rfl, rfl⟩
    · rw [if_neg (Int.not_lt.mpr hc2)] at h
      refine zv_con hB zd15_10 rfl ?_
      refine zv_goto hB zd15_11 rfl ?_
      have hw := Option.some.inj h
      subst hw
      exact hret _ _ _ _ _ zd15_15 (by constructor <;> decide) ⟨rfl, rfl, rfl⟩
-- 2: java/lang/Math.floorMod(II)I
-- names: 
-- fields: ; arrays: ; out: [('ret', None)]
abbrev zy2 : zNL := (0, [], [], [], [])
theorem zyw2 : zv_wf zy2 = true := by decide +kernel
theorem zye2 : zv_ek2 zy2 = true := by decide +kernel
def zf2 (x0 : Int) (x1 : Int) : Option (Int) := cond (zi_ne x1) (if (zi_xor x0 x1) < 0 then (if (zi_rem x0 x1) = 0 then (some (zi_rem x0 x1)) else (some (zi_w ((zi_rem x0 x1) + x1)))) else (some (zi_rem x0 x1))) none
theorem zd129_0 : decode zxm129.2.1 0 = .ok (.iload_n 0, 1) := by decide +kernel
theorem zd129_1 : decode zxm129.2.1 1 = .ok (.iload_n 1, 1) := by decide +kernel
theorem zd129_2 : decode zxm129.2.1 2 = .ok (.irem, 1) := by decide +kernel
theorem zd129_3 : decode zxm129.2.1 3 = .ok (.istore_n 2, 1) := by decide +kernel
theorem zd129_4 : decode zxm129.2.1 4 = .ok (.iload_n 0, 1) := by decide +kernel
theorem zd129_5 : decode zxm129.2.1 5 = .ok (.iload_n 1, 1) := by decide +kernel
theorem zd129_6 : decode zxm129.2.1 6 = .ok (.ixor, 1) := by decide +kernel
theorem zd129_7 : decode zxm129.2.1 7 = .ok (.ifCond .ge 11, 3) := by decide +kernel
theorem zd129_10 : decode zxm129.2.1 10 = .ok (.iload_n 2, 1) := by decide +kernel
theorem zd129_11 : decode zxm129.2.1 11 = .ok (.ifCond .eq 7, 3) := by decide +kernel
theorem zd129_14 : decode zxm129.2.1 14 = .ok (.iload_n 2, 1) := by decide +kernel
theorem zd129_15 : decode zxm129.2.1 15 = .ok (.iload_n 1, 1) := by decide +kernel
theorem zd129_16 : decode zxm129.2.1 16 = .ok (.iadd, 1) := by decide +kernel
theorem zd129_17 : decode zxm129.2.1 17 = .ok (.ireturn, 1) := by decide +kernel
theorem zd129_18 : decode zxm129.2.1 18 = .ok (.iload_n 2, 1) := by decide +kernel
theorem zd129_19 : decode zxm129.2.1 19 = .ok (.ireturn, 1) := by decide +kernel
theorem zt2 {x0 : Int} {x1 : Int} {o : Int} (h : zf2 x0 x1 = some o) : zv_Fn z_TB z_cl z_KX zy2 zxm129 (0, 0) [.inl x0, .inl x1] [] [] (some o) [] [] := zv_meth (K := (z_KF16, z_KC16, z_KL16, z_KT16, [], [], [], none)) (FT := z_FT) (MT := z_MT) (n := 2) zxp129 (z_ks16 _ (fun _ h => List.mem_cons_of_mem _ h) _ _ _ _ (fun j r h _ => by cases h)) (fun _ _ => zs_KX_p) zyw2 (fun va F G h => by obtain ⟨rfl, _⟩ := h; rfl) rfl fun good va F G hB hret hvret hP => by
  obtain ⟨rfl, rfl, rfl⟩ := hP
  unfold zf2 at h
  refine zv_ild hB zd129_0 rfl rfl ?_
  refine zv_ild hB zd129_1 rfl rfl ?_
  obtain ⟨c1, h⟩ := zi_if h
  refine zv_remw hB zd129_2 (zi_ne_ok c1) ?_
  refine zv_ist hB zd129_3 rfl rfl rfl ?_
  refine zv_ild hB zd129_4 rfl rfl ?_
  refine zv_ild hB zd129_5 rfl rfl ?_
  refine zv_xorw hB zd129_6 ?_
  refine zv_zge hB zd129_7 rfl (fun hc2 => ?_) (fun hc2 => ?_)
  · rw [if_neg (Int.not_lt.mpr hc2)] at h
    refine zv_ild hB zd129_18 rfl rfl ?_
    have hw := Option.some.inj h
    subst hw
    exact hret _ _ _ _ _ zd129_19 (by trivial) ⟨rfl, rfl, rfl⟩
  · rw [if_pos hc2] at h
    refine zv_ild hB zd129_10 rfl rfl ?_
    refine zv_zeq hB zd129_11 rfl (fun hc3 => ?_) (fun hc3 => ?_)
    · rw [if_pos hc3] at h
      refine zv_ild hB zd129_18 rfl rfl ?_
      have hw := Option.some.inj h
      subst hw
      exact hret _ _ _ _ _ zd129_19 (by trivial) ⟨rfl, rfl, rfl⟩
    · rw [if_neg hc3] at h
      refine zv_ild hB zd129_14 rfl rfl ?_
      refine zv_ild hB zd129_15 rfl rfl ?_
      refine zv_addw hB zd129_16 ?_
      have hw := Option.some.inj h
      subst hw
      exact hret _ _ _ _ _ zd129_17 (by trivial) ⟨rfl, rfl, rfl⟩
-- 3: StarTales$Sky.columnNextNight(I)I
-- names: 0 Sky('arg', 0), 1 (0, 24)(0, 1, 1), 2 (0, 24)(0, 1, 4)
-- fields: ; arrays: g0 = 1, g1 = 2; out: [('ret', None)]
abbrev zy3 : zNL := (3, [(0, 1)], [], [(0, 1, 1, 1), (0, 1, 4, 2)], [(1, 0, 24, 0), (2, 0, 24, 1)])
theorem zyw3 : zv_wf zy3 = true := by decide +kernel
theorem zye3 : zv_ek2 zy3 = true := by decide +kernel
def zf3 (x1 : Int) (g0 : (Int → Int)) (g1 : (Int → Int)) : Option (Int) := cond (zi_ix x1 24) (cond (zi_ix x1 24) ((zf2 (zi_w ((g0 x1) + (g1 x1))) 24).bind fun r3 => (some r3)) none) none
theorem zd157_0 : decode zxm157.2.1 0 = .ok (.aload_n 0, 1) := by decide +kernel
theorem zd157_1 : decode zxm157.2.1 1 = .ok (.getfield 15, 3) := by decide +kernel
theorem zd157_4 : decode zxm157.2.1 4 = .ok (.iload_n 1, 1) := by decide +kernel
theorem zd157_5 : decode zxm157.2.1 5 = .ok (.iaload, 1) := by decide +kernel
theorem zd157_6 : decode zxm157.2.1 6 = .ok (.aload_n 0, 1) := by decide +kernel
theorem zd157_7 : decode zxm157.2.1 7 = .ok (.getfield 25, 3) := by decide +kernel
theorem zd157_10 : decode zxm157.2.1 10 = .ok (.iload_n 1, 1) := by decide +kernel
theorem zd157_11 : decode zxm157.2.1 11 = .ok (.iaload, 1) := by decide +kernel
theorem zd157_12 : decode zxm157.2.1 12 = .ok (.iadd, 1) := by decide +kernel
theorem zd157_13 : decode zxm157.2.1 13 = .ok (.bipush 24, 2) := by decide +kernel
theorem zd157_15 : decode zxm157.2.1 15 = .ok (.invokestatic 49, 3) := by decide +kernel
theorem zd157_18 : decode zxm157.2.1 18 = .ok (.ireturn, 1) := by decide +kernel
theorem zt3 {x1 : Int} {g0 : (Int → Int)} {g1 : (Int → Int)} {o : Int} (h : zf3 x1 g0 g1 = some o) : zv_Fn z_TB z_cl z_KX zy3 zxm157 (1, 60) [.inr 0, .inl x1] [] [g0, g1] (some o) [] [g0, g1] := zv_meth (K := (z_KF8, z_KC8, z_KL8, z_KT8, [], [], [], none)) (FT := z_FT) (MT := z_MT) (n := 2) zxp157 (z_ks8 _ (fun _ h => List.mem_cons_of_mem _ h) _ _ _ _ (fun j r h _ => by cases h)) (fun _ _ => zs_KX_p) zyw3 (fun va F G h => by obtain ⟨rfl, _⟩ := h; rfl) rfl fun good va F G hB hret hvret hP => by
  obtain ⟨rfl, rfl, rfl⟩ := hP
  unfold zf3 at h
  refine zv_ald hB zd157_0 rfl rfl rfl ?_
  refine zv_getr hB zd157_1 rfl ?_
  refine zv_ild hB zd157_4 rfl rfl ?_
  obtain ⟨c1, h⟩ := zi_if h
  refine zv_iald hB zd157_5 rfl rfl (zi_ix_ok c1).1 (zi_ix_ok c1).2 (fun _ _ => ?_)
  refine zv_ald hB zd157_6 rfl rfl rfl ?_
  refine zv_getr hB zd157_7 rfl ?_
  refine zv_ild hB zd157_10 rfl rfl ?_
  obtain ⟨c2, h⟩ := zi_if h
  refine zv_iald hB zd157_11 rfl rfl (zi_ix_ok c2).1 (zi_ix_ok c2).2 (fun _ _ => ?_)
  refine zv_addw hB zd157_12 ?_
  refine zv_con hB zd157_13 rfl ?_
  obtain ⟨r3, hr3, h⟩ := zi_bind h
  refine zv_cs hB (show zv_Fn _ _ _ zy3 _ _ [.inl (zi_w ((g0 x1) + (g1 x1))), .inl 24] [] [g0, g1] (some r3) [] [g0, g1] from zv_emb (F := []) (G := [g0, g1]) zyw2 zyw3 zye3 (by decide +kernel : zv_ek zy2 zy3 [] [] [] = true) (zt2 hr3) trivial trivial) zd157_15 zxt129 rfl (by decide) (by decide) rfl ?_
  have hw := Option.some.inj h
  subst hw
  exact hret _ _ _ _ _ zd157_18 (by trivial) ⟨rfl, rfl, rfl⟩
-- 4: java/lang/Math.min(II)I
-- names: 
-- fields: ; arrays: ; out: [('ret', None)]
abbrev zy4 : zNL := (0, [], [], [], [])
theorem zyw4 : zv_wf zy4 = true := by decide +kernel
theorem zye4 : zv_ek2 zy4 = true := by decide +kernel
def zf4 (x0 : Int) (x1 : Int) : Option (Int) := if x1 < x0 then (some x1) else (some x0)
theorem zd37_0 : decode zxm37.2.1 0 = .ok (.iload_n 0, 1) := by decide +kernel
theorem zd37_1 : decode zxm37.2.1 1 = .ok (.iload_n 1, 1) := by decide +kernel
theorem zd37_2 : decode zxm37.2.1 2 = .ok (.if_icmp .gt 7, 3) := by decide +kernel
theorem zd37_5 : decode zxm37.2.1 5 = .ok (.iload_n 0, 1) := by decide +kernel
theorem zd37_6 : decode zxm37.2.1 6 = .ok (.goto 4, 3) := by decide +kernel
theorem zd37_9 : decode zxm37.2.1 9 = .ok (.iload_n 1, 1) := by decide +kernel
theorem zd37_10 : decode zxm37.2.1 10 = .ok (.ireturn, 1) := by decide +kernel
theorem zt4 {x0 : Int} {x1 : Int} {o : Int} (h : zf4 x0 x1 = some o) : zv_Fn z_TB z_cl z_KX zy4 zxm37 (0, 0) [.inl x0, .inl x1] [] [] (some o) [] [] := zv_meth (K := (z_KF16, z_KC16, z_KL16, z_KT16, [], [], [], none)) (FT := z_FT) (MT := z_MT) (n := 2) zxp37 (z_ks16 _ (fun _ h => List.mem_cons_of_mem _ h) _ _ _ _ (fun j r h _ => by cases h)) (fun _ _ => zs_KX_p) zyw4 (fun va F G h => by obtain ⟨rfl, _⟩ := h; rfl) rfl fun good va F G hB hret hvret hP => by
  obtain ⟨rfl, rfl, rfl⟩ := hP
  unfold zf4 at h
  refine zv_ild hB zd37_0 rfl rfl ?_
  refine zv_ild hB zd37_1 rfl rfl ?_
  refine zv_cgt hB zd37_2 rfl (fun hc1 => ?_) (fun hc1 => ?_)
  · rw [if_pos hc1] at h
    refine zv_ild hB zd37_9 rfl rfl ?_
    have hw := Option.some.inj h
    subst hw
    exact hret _ _ _ _ _ zd37_10 (by trivial) ⟨rfl, rfl, rfl⟩
  · rw [if_neg (Int.not_lt.mpr hc1)] at h
    refine zv_ild hB zd37_5 rfl rfl ?_
    refine zv_goto hB zd37_6 rfl ?_
    have hw := Option.some.inj h
    subst hw
    exact hret _ _ _ _ _ zd37_10 (by trivial) ⟨rfl, rfl, rfl⟩
-- 5: java/lang/Math.max(II)I
-- names: 
-- fields: ; arrays: ; out: [('ret', None)]
abbrev zy5 : zNL := (0, [], [], [], [])
theorem zyw5 : zv_wf zy5 = true := by decide +kernel
theorem zye5 : zv_ek2 zy5 = true := by decide +kernel
def zf5 (x0 : Int) (x1 : Int) : Option (Int) := if x0 < x1 then (some x1) else (some x0)
theorem zd55_0 : decode zxm55.2.1 0 = .ok (.iload_n 0, 1) := by decide +kernel
theorem zd55_1 : decode zxm55.2.1 1 = .ok (.iload_n 1, 1) := by decide +kernel
theorem zd55_2 : decode zxm55.2.1 2 = .ok (.if_icmp .lt 7, 3) := by decide +kernel
theorem zd55_5 : decode zxm55.2.1 5 = .ok (.iload_n 0, 1) := by decide +kernel
theorem zd55_6 : decode zxm55.2.1 6 = .ok (.goto 4, 3) := by decide +kernel
theorem zd55_9 : decode zxm55.2.1 9 = .ok (.iload_n 1, 1) := by decide +kernel
theorem zd55_10 : decode zxm55.2.1 10 = .ok (.ireturn, 1) := by decide +kernel
theorem zt5 {x0 : Int} {x1 : Int} {o : Int} (h : zf5 x0 x1 = some o) : zv_Fn z_TB z_cl z_KX zy5 zxm55 (0, 0) [.inl x0, .inl x1] [] [] (some o) [] [] := zv_meth (K := (z_KF16, z_KC16, z_KL16, z_KT16, [], [], [], none)) (FT := z_FT) (MT := z_MT) (n := 2) zxp55 (z_ks16 _ (fun _ h => List.mem_cons_of_mem _ h) _ _ _ _ (fun j r h _ => by cases h)) (fun _ _ => zs_KX_p) zyw5 (fun va F G h => by obtain ⟨rfl, _⟩ := h; rfl) rfl fun good va F G hB hret hvret hP => by
  obtain ⟨rfl, rfl, rfl⟩ := hP
  unfold zf5 at h
  refine zv_ild hB zd55_0 rfl rfl ?_
  refine zv_ild hB zd55_1 rfl rfl ?_
  refine zv_clt hB zd55_2 rfl (fun hc1 => ?_) (fun hc1 => ?_)
  · rw [if_pos hc1] at h
    refine zv_ild hB zd55_9 rfl rfl ?_
    have hw := Option.some.inj h
    subst hw
    exact hret _ _ _ _ _ zd55_10 (by trivial) ⟨rfl, rfl, rfl⟩
  · rw [if_neg (Int.not_lt.mpr hc1)] at h
    refine zv_ild hB zd55_5 rfl rfl ?_
    refine zv_goto hB zd55_6 rfl ?_
    have hw := Option.some.inj h
    subst hw
    exact hret _ _ _ _ _ zd55_10 (by trivial) ⟨rfl, rfl, rfl⟩
-- 6: StarTales$Sky.rowNextNight(I)I
-- names: 0 Sky('arg', 0), 1 (0, 24)(0, 1, 2), 2 (0, 24)(0, 1, 5)
-- fields: ; arrays: g0 = 1, g1 = 2; out: [('ret', None)]
abbrev zy6 : zNL := (3, [(0, 1)], [], [(0, 1, 2, 1), (0, 1, 5, 2)], [(1, 0, 24, 0), (2, 0, 24, 1)])
theorem zyw6 : zv_wf zy6 = true := by decide +kernel
theorem zye6 : zv_ek2 zy6 = true := by decide +kernel
def zf6 (x1 : Int) (g0 : (Int → Int)) (g1 : (Int → Int)) : Option (Int) := cond (zi_ix x1 24) (cond (zi_ix x1 24) ((zf4 11 (zi_w ((g0 x1) + (g1 x1)))).bind fun r3 => ((zf5 0 r3).bind fun r4 => (some r4))) none) none
theorem zd158_0 : decode zxm158.2.1 0 = .ok (.iconst 0, 1) := by decide +kernel
theorem zd158_1 : decode zxm158.2.1 1 = .ok (.bipush 11, 2) := by decide +kernel
theorem zd158_3 : decode zxm158.2.1 3 = .ok (.aload_n 0, 1) := by decide +kernel
theorem zd158_4 : decode zxm158.2.1 4 = .ok (.getfield 19, 3) := by decide +kernel
theorem zd158_7 : decode zxm158.2.1 7 = .ok (.iload_n 1, 1) := by decide +kernel
theorem zd158_8 : decode zxm158.2.1 8 = .ok (.iaload, 1) := by decide +kernel
theorem zd158_9 : decode zxm158.2.1 9 = .ok (.aload_n 0, 1) := by decide +kernel
theorem zd158_10 : decode zxm158.2.1 10 = .ok (.getfield 28, 3) := by decide +kernel
theorem zd158_13 : decode zxm158.2.1 13 = .ok (.iload_n 1, 1) := by decide +kernel
theorem zd158_14 : decode zxm158.2.1 14 = .ok (.iaload, 1) := by decide +kernel
theorem zd158_15 : decode zxm158.2.1 15 = .ok (.iadd, 1) := by decide +kernel
theorem zd158_16 : decode zxm158.2.1 16 = .ok (.invokestatic 55, 3) := by decide +kernel
theorem zd158_19 : decode zxm158.2.1 19 = .ok (.invokestatic 58, 3) := by decide +kernel
theorem zd158_22 : decode zxm158.2.1 22 = .ok (.ireturn, 1) := by decide +kernel
theorem zt6 {x1 : Int} {g0 : (Int → Int)} {g1 : (Int → Int)} {o : Int} (h : zf6 x1 g0 g1 = some o) : zv_Fn z_TB z_cl z_KX zy6 zxm158 (1, 60) [.inr 0, .inl x1] [] [g0, g1] (some o) [] [g0, g1] := zv_meth (K := (z_KF8, z_KC8, z_KL8, z_KT8, [], [], [], none)) (FT := z_FT) (MT := z_MT) (n := 2) zxp158 (z_ks8 _ (fun _ h => List.mem_cons_of_mem _ h) _ _ _ _ (fun j r h _ => by cases h)) (fun _ _ => zs_KX_p) zyw6 (fun va F G h => by obtain ⟨rfl, _⟩ := h; rfl) rfl fun good va F G hB hret hvret hP => by
  obtain ⟨rfl, rfl, rfl⟩ := hP
  unfold zf6 at h
  refine zv_con hB zd158_0 rfl ?_
  refine zv_con hB zd158_1 rfl ?_
  refine zv_ald hB zd158_3 rfl rfl rfl ?_
  refine zv_getr hB zd158_4 rfl ?_
  refine zv_ild hB zd158_7 rfl rfl ?_
  obtain ⟨c1, h⟩ := zi_if h
  refine zv_iald hB zd158_8 rfl rfl (zi_ix_ok c1).1 (zi_ix_ok c1).2 (fun _ _ => ?_)
  refine zv_ald hB zd158_9 rfl rfl rfl ?_
  refine zv_getr hB zd158_10 rfl ?_
  refine zv_ild hB zd158_13 rfl rfl ?_
  obtain ⟨c2, h⟩ := zi_if h
  refine zv_iald hB zd158_14 rfl rfl (zi_ix_ok c2).1 (zi_ix_ok c2).2 (fun _ _ => ?_)
  refine zv_addw hB zd158_15 ?_
  obtain ⟨r3, hr3, h⟩ := zi_bind h
  refine zv_cs hB (show zv_Fn _ _ _ zy6 _ _ [.inl 11, .inl (zi_w ((g0 x1) + (g1 x1)))] [] [g0, g1] (some r3) [] [g0, g1] from zv_emb (F := []) (G := [g0, g1]) zyw4 zyw6 zye6 (by decide +kernel : zv_ek zy4 zy6 [] [] [] = true) (zt4 hr3) trivial trivial) zd158_16 zxt37 rfl (by decide) (by decide) rfl ?_
  obtain ⟨r4, hr4, h⟩ := zi_bind h
  refine zv_cs hB (show zv_Fn _ _ _ zy6 _ _ [.inl 0, .inl r3] [] [g0, g1] (some r4) [] [g0, g1] from zv_emb (F := []) (G := [g0, g1]) zyw5 zyw6 zye6 (by decide +kernel : zv_ek zy5 zy6 [] [] [] = true) (zt5 hr4) trivial trivial) zd158_19 zxt55 rfl (by decide) (by decide) rfl ?_
  have hw := Option.some.inj h
  subst hw
  exact hret _ _ _ _ _ zd158_22 (by trivial) ⟨rfl, rfl, rfl⟩
-- 7: StarTales$Sky.beginNight()V
-- names: 0 Sky('arg', 0), 1 (0, 24)(0, 1, 1), 2 (0, 24)(0, 1, 4), 3 (0, 24)(0, 1, 2), 4 (0, 24)(0, 1, 5)
-- fields: f0 = 0.night; arrays: g0 = 1, g1 = 2, g2 = 3, g3 = 4; out: [('f', 0), ('g', 0), ('g', 2)]
abbrev zy7 : zNL := (5, [(0, 1)], [(0, 1, 7, 0)], [(0, 1, 1, 1), (0, 1, 4, 2), (0, 1, 2, 3), (0, 1, 5, 4)], [(1, 0, 24, 0), (2, 0, 24, 1), (3, 0, 24, 2), (4, 0, 24, 3)])
theorem zyw7 : zv_wf zy7 = true := by decide +kernel
theorem zye7 : zv_ek2 zy7 = true := by decide +kernel
def zf7_l0_b (g1 : (Int → Int)) (g3 : (Int → Int)) (rec : Int → (Int → Int) → (Int → Int) → Option ((Int → Int) × (Int → Int))) (x1 : Int) (g0 : (Int → Int)) (g2 : (Int → Int)) : Option ((Int → Int) × (Int → Int)) := if x1 < 24 then ((zf3 x1 g0 g1).bind fun r2 => (cond (zi_ix x1 24) ((zf6 x1 g2 g3).bind fun r4 => (cond (zi_ix x1 24) (rec (zi_w (x1 + 1)) (zv_up g0 x1 r2) (zv_up g2 x1 r4)) none)) none)) else (some (g0, g2))
def zf7_l0 (g1 : (Int → Int)) (g3 : (Int → Int)) : Nat → Int → (Int → Int) → (Int → Int) → Option ((Int → Int) × (Int → Int))
  | 0, _, _, _ => none
  | n + 1, x1, g0, g2 => zf7_l0_b g1 g3 (zf7_l0 g1 g3 n) x1 g0 g2
def zf7 (f0 : Int) (g0 : (Int → Int)) (g1 : (Int → Int)) (g2 : (Int → Int)) (g3 : (Int → Int)) : Option (Int × (Int → Int) × (Int → Int)) := (zf7_l0 g1 g3 zi_fu 0 g0 g2).bind fun q6 => (some ((zi_w (f0 + 1)), q6.1, q6.2))
theorem zd156_0 : decode zxm156.2.1 0 = .ok (.aload_n 0, 1) := by decide +kernel
theorem zd156_1 : decode zxm156.2.1 1 = .ok (.dup, 1) := by decide +kernel
theorem zd156_2 : decode zxm156.2.1 2 = .ok (.getfield 34, 3) := by decide +kernel
theorem zd156_5 : decode zxm156.2.1 5 = .ok (.iconst 1, 1) := by decide +kernel
theorem zd156_6 : decode zxm156.2.1 6 = .ok (.iadd, 1) := by decide +kernel
theorem zd156_7 : decode zxm156.2.1 7 = .ok (.putfield 34, 3) := by decide +kernel
theorem zd156_10 : decode zxm156.2.1 10 = .ok (.iconst 0, 1) := by decide +kernel
theorem zd156_11 : decode zxm156.2.1 11 = .ok (.istore_n 1, 1) := by decide +kernel
theorem zd156_12 : decode zxm156.2.1 12 = .ok (.iload_n 1, 1) := by decide +kernel
theorem zd156_13 : decode zxm156.2.1 13 = .ok (.bipush 24, 2) := by decide +kernel
theorem zd156_15 : decode zxm156.2.1 15 = .ok (.if_icmp .ge 31, 3) := by decide +kernel
theorem zd156_18 : decode zxm156.2.1 18 = .ok (.aload_n 0, 1) := by decide +kernel
theorem zd156_19 : decode zxm156.2.1 19 = .ok (.getfield 15, 3) := by decide +kernel
theorem zd156_22 : decode zxm156.2.1 22 = .ok (.iload_n 1, 1) := by decide +kernel
theorem zd156_23 : decode zxm156.2.1 23 = .ok (.aload_n 0, 1) := by decide +kernel
theorem zd156_24 : decode zxm156.2.1 24 = .ok (.iload_n 1, 1) := by decide +kernel
theorem zd156_25 : decode zxm156.2.1 25 = .ok (.invokevirtual 61, 3) := by decide +kernel
theorem zd156_28 : decode zxm156.2.1 28 = .ok (.iastore, 1) := by decide +kernel
theorem zd156_29 : decode zxm156.2.1 29 = .ok (.aload_n 0, 1) := by decide +kernel
theorem zd156_30 : decode zxm156.2.1 30 = .ok (.getfield 19, 3) := by decide +kernel
theorem zd156_33 : decode zxm156.2.1 33 = .ok (.iload_n 1, 1) := by decide +kernel
theorem zd156_34 : decode zxm156.2.1 34 = .ok (.aload_n 0, 1) := by decide +kernel
theorem zd156_35 : decode zxm156.2.1 35 = .ok (.iload_n 1, 1) := by decide +kernel
theorem zd156_36 : decode zxm156.2.1 36 = .ok (.invokevirtual 65, 3) := by decide +kernel
theorem zd156_39 : decode zxm156.2.1 39 = .ok (.iastore, 1) := by decide +kernel
theorem zd156_40 : decode zxm156.2.1 40 = .ok (.iinc 1 1, 3) := by decide +kernel
theorem zd156_43 : decode zxm156.2.1 43 = .ok (.goto (-31), 3) := by decide +kernel
theorem zd156_46 : decode zxm156.2.1 46 = .ok (.return_, 1) := by decide +kernel
theorem zt7 {f0 : Int} {g0 : (Int → Int)} {g1 : (Int → Int)} {g2 : (Int → Int)} {g3 : (Int → Int)} {o : Int × (Int → Int) × (Int → Int)} (h : zf7 f0 g0 g1 g2 g3 = some o) : zv_Fn z_TB z_cl z_KX zy7 zxm156 (2, 120) [.inr 0] [.inl f0] [g0, g1, g2, g3] none [.inl o.1] [o.2.1, g1, o.2.2, g3] := zv_meth (K := (z_KF8, z_KC8, z_KL8, z_KT8, [], [], [], none)) (FT := z_FT) (MT := z_MT) (n := 1) zxp156 (z_ks8 _ (fun _ h => List.mem_cons_of_mem _ h) _ _ _ _ (fun j r h _ => by cases h)) (fun _ _ => zs_KX_p) zyw7 (fun va F G h => by obtain ⟨rfl, _⟩ := h; rfl) rfl fun good va F G hB hret hvret hP => by
  obtain ⟨rfl, rfl, rfl⟩ := hP
  have l0 : ∀ (n : Nat) (x1 : Int) (f0 : Int) (g0 : (Int → Int)) (g2 : (Int → Int)) (q : (Int → Int) × (Int → Int)), zf7_l0 g1 g3 n x1 g0 g2 = some q → (good 46 [.inr 1000, .inr 1000] [] [.inl f0] [q.1, g1, q.2, g3]) → good 12 [.inr 0, .inl x1] [] [.inl f0] [g0, g1, g2, g3] := by
    intro n
    induction n with
    | zero => intro x1 f0 g0 g2 q h; exact absurd (show none = some q from h) (fun h => by cases h)
    | succ n ih =>
      intro x1 f0 g0 g2 q h hK
      replace h : zf7_l0_b g1 g3 (zf7_l0 g1 g3 n) x1 g0 g2 = some q := h
      unfold zf7_l0_b at h
      refine zv_ild hB zd156_12 rfl rfl ?_
      refine zv_con hB zd156_13 rfl ?_
      refine zv_cge hB zd156_15 rfl (fun hc1 => ?_) (fun hc1 => ?_)
      · rw [if_neg (Int.not_lt.mpr hc1)] at h
        have hq := Option.some.inj h
        subst hq
        refine zv_wk hB (L' := [.inr 1000, .inr 1000]) (F' := [.inl f0]) ⟨fun h => (Nat.lt_irrefl 1000 h).elim, fun h => (Nat.lt_irrefl 1000 h).elim, trivial⟩ ⟨fun _ => rfl, trivial⟩ ?_
        exact hK
      · rw [if_pos hc1] at h
        refine zv_ald hB zd156_18 rfl rfl rfl ?_
        refine zv_getr hB zd156_19 rfl ?_
        refine zv_ild hB zd156_22 rfl rfl ?_
        refine zv_ald hB zd156_23 rfl rfl rfl ?_
        refine zv_ild hB zd156_24 rfl rfl ?_
        obtain ⟨r2, hr2, h⟩ := zi_bind h
        refine zv_cv hB (show zv_Fn _ _ _ zy7 _ _ [.inr 0, .inl x1] [.inl f0] [g0, g1, g2, g3] (some r2) [.inl f0] [g0, g1, g2, g3] from zv_emb (F := [.inl f0]) (G := [g0, g1, g2, g3]) zyw3 zyw7 zye7 (by decide +kernel : zv_ek zy3 zy7 [0, 1, 2] [] [0, 1] = true) (zt3 hr2) trivial ⟨rfl, rfl, trivial⟩) zd156_25 zxt157 rfl (by decide) (by decide) rfl ?_
        obtain ⟨c3, h⟩ := zi_if h
        refine zv_iast hB zd156_28 rfl rfl (zi_ix_ok c3).1 (zi_ix_ok c3).2 ?_
        refine zv_ald hB zd156_29 rfl rfl rfl ?_
        refine zv_getr hB zd156_30 rfl ?_
        refine zv_ild hB zd156_33 rfl rfl ?_
        refine zv_ald hB zd156_34 rfl rfl rfl ?_
        refine zv_ild hB zd156_35 rfl rfl ?_
        obtain ⟨r4, hr4, h⟩ := zi_bind h
        refine zv_cv hB (show zv_Fn _ _ _ zy7 _ _ [.inr 0, .inl x1] [.inl f0] [(zv_up g0 x1 r2), g1, g2, g3] (some r4) [.inl f0] [(zv_up g0 x1 r2), g1, g2, g3] from zv_emb (F := [.inl f0]) (G := [(zv_up g0 x1 r2), g1, g2, g3]) zyw6 zyw7 zye7 (by decide +kernel : zv_ek zy6 zy7 [0, 3, 4] [] [2, 3] = true) (zt6 hr4) trivial ⟨rfl, rfl, trivial⟩) zd156_36 zxt158 rfl (by decide) (by decide) rfl ?_
        obtain ⟨c5, h⟩ := zi_if h
        refine zv_iast hB zd156_39 rfl rfl (zi_ix_ok c5).1 (zi_ix_ok c5).2 ?_
        refine zv_iincw hB zd156_40 rfl rfl ?_
        refine zv_goto hB zd156_43 rfl ?_
        exact ih _ _ _ _ q h hK
  unfold zf7 at h
  refine zv_ald hB zd156_0 rfl rfl rfl ?_
  refine zv_dup hB zd156_1 ?_
  refine zv_getf hB zd156_2 rfl rfl (fun _ _ => ?_)
  refine zv_con hB zd156_5 rfl ?_
  refine zv_addw hB zd156_6 ?_
  refine zv_putf hB zd156_7 rfl rfl (fun h => by cases h) rfl ?_
  refine zv_con hB zd156_10 rfl ?_
  refine zv_ist hB zd156_11 rfl rfl rfl ?_
  obtain ⟨q6, hq6, h⟩ := zi_bind h
  refine l0 _ _ _ _ _ q6 hq6 ?_
  show good 46 [.inr 1000, .inr 1000] [] [.inl (zi_w (f0 + 1))] [q6.1, g1, q6.2, g3]
  have hw := Option.some.inj h
  subst hw
  exact hvret _ _ _ _ zd156_46 trivial ⟨rfl, rfl, rfl⟩
-- 8: StarTales$Sky.passHour()V
-- names: 0 Sky('arg', 0), 1 (0, 24)(0, 1, 1), 2 (0, 24)(0, 1, 4), 3 (0, 24)(0, 1, 2), 4 (0, 24)(0, 1, 5)
-- fields: f0 = 0.hour, f1 = 0.night; arrays: g0 = 1, g1 = 2, g2 = 3, g3 = 4; out: [('f', 0), ('f', 1), ('g', 0), ('g', 2)]
abbrev zy8 : zNL := (5, [(0, 1)], [(0, 1, 6, 0), (0, 1, 7, 1)], [(0, 1, 1, 1), (0, 1, 4, 2), (0, 1, 2, 3), (0, 1, 5, 4)], [(1, 0, 24, 0), (2, 0, 24, 1), (3, 0, 24, 2), (4, 0, 24, 3)])
theorem zyw8 : zv_wf zy8 = true := by decide +kernel
theorem zye8 : zv_ek2 zy8 = true := by decide +kernel
def zf8 (f0 : Int) (f1 : Int) (g0 : (Int → Int)) (g1 : (Int → Int)) (g2 : (Int → Int)) (g3 : (Int → Int)) : Option (Int × Int × (Int → Int) × (Int → Int)) := if (zi_w (f0 + 1)) = 24 then ((zf7 f1 g0 g1 g2 g3).bind fun r2 => (some (0, r2.1, r2.2.1, r2.2.2))) else (some ((zi_w (f0 + 1)), f1, g0, g2))
theorem zd155_0 : decode zxm155.2.1 0 = .ok (.aload_n 0, 1) := by decide +kernel
theorem zd155_1 : decode zxm155.2.1 1 = .ok (.dup, 1) := by decide +kernel
theorem zd155_2 : decode zxm155.2.1 2 = .ok (.getfield 31, 3) := by decide +kernel
theorem zd155_5 : decode zxm155.2.1 5 = .ok (.iconst 1, 1) := by decide +kernel
theorem zd155_6 : decode zxm155.2.1 6 = .ok (.iadd, 1) := by decide +kernel
theorem zd155_7 : decode zxm155.2.1 7 = .ok (.putfield 31, 3) := by decide +kernel
theorem zd155_10 : decode zxm155.2.1 10 = .ok (.aload_n 0, 1) := by decide +kernel
theorem zd155_11 : decode zxm155.2.1 11 = .ok (.getfield 31, 3) := by decide +kernel
theorem zd155_14 : decode zxm155.2.1 14 = .ok (.bipush 24, 2) := by decide +kernel
theorem zd155_16 : decode zxm155.2.1 16 = .ok (.if_icmp .ne 12, 3) := by decide +kernel
theorem zd155_19 : decode zxm155.2.1 19 = .ok (.aload_n 0, 1) := by decide +kernel
theorem zd155_20 : decode zxm155.2.1 20 = .ok (.iconst 0, 1) := by decide +kernel
theorem zd155_21 : decode zxm155.2.1 21 = .ok (.putfield 31, 3) := by decide +kernel
theorem zd155_24 : decode zxm155.2.1 24 = .ok (.aload_n 0, 1) := by decide +kernel
theorem zd155_25 : decode zxm155.2.1 25 = .ok (.invokevirtual 68, 3) := by decide +kernel
theorem zd155_28 : decode zxm155.2.1 28 = .ok (.return_, 1) := by decide +kernel
theorem zt8 {f0 : Int} {f1 : Int} {g0 : (Int → Int)} {g1 : (Int → Int)} {g2 : (Int → Int)} {g3 : (Int → Int)} {o : Int × Int × (Int → Int) × (Int → Int)} (h : zf8 f0 f1 g0 g1 g2 g3 = some o) : zv_Fn z_TB z_cl z_KX zy8 zxm155 (3, 180) [.inr 0] [.inl f0, .inl f1] [g0, g1, g2, g3] none [.inl o.1, .inl o.2.1] [o.2.2.1, g1, o.2.2.2, g3] := zv_meth (K := (z_KF8, z_KC8, z_KL8, z_KT8, [], [], [], none)) (FT := z_FT) (MT := z_MT) (n := 1) zxp155 (z_ks8 _ (fun _ h => List.mem_cons_of_mem _ h) _ _ _ _ (fun j r h _ => by cases h)) (fun _ _ => zs_KX_p) zyw8 (fun va F G h => by obtain ⟨rfl, _⟩ := h; rfl) rfl fun good va F G hB hret hvret hP => by
  obtain ⟨rfl, rfl, rfl⟩ := hP
  unfold zf8 at h
  refine zv_ald hB zd155_0 rfl rfl rfl ?_
  refine zv_dup hB zd155_1 ?_
  refine zv_getf hB zd155_2 rfl rfl (fun _ _ => ?_)
  refine zv_con hB zd155_5 rfl ?_
  refine zv_addw hB zd155_6 ?_
  refine zv_putf hB zd155_7 rfl rfl (fun h => by cases h) rfl ?_
  refine zv_ald hB zd155_10 rfl rfl rfl ?_
  refine zv_getf hB zd155_11 rfl rfl (fun _ _ => ?_)
  refine zv_con hB zd155_14 rfl ?_
  refine zv_cne hB zd155_16 rfl (fun hc1 => ?_) (fun hc1 => ?_)
  · rw [if_neg hc1] at h
    have hw := Option.some.inj h
    subst hw
    exact hvret _ _ _ _ zd155_28 trivial ⟨rfl, rfl, rfl⟩
  · rw [if_pos hc1] at h
    refine zv_ald hB zd155_19 rfl rfl rfl ?_
    refine zv_con hB zd155_20 rfl ?_
    refine zv_putf hB zd155_21 rfl rfl (fun h => by cases h) rfl ?_
    refine zv_ald hB zd155_24 rfl rfl rfl ?_
    obtain ⟨r2, hr2, h⟩ := zi_bind h
    refine zv_cv hB (show zv_Fn _ _ _ zy8 _ _ [.inr 0] [.inl 0, .inl f1] [g0, g1, g2, g3] none [.inl 0, .inl r2.1] [r2.2.1, g1, r2.2.2, g3] from zv_emb (F := [.inl 0, .inl f1]) (G := [g0, g1, g2, g3]) zyw7 zyw8 zye8 (by decide +kernel : zv_ek zy7 zy8 [0, 1, 2, 3, 4] [1] [0, 1, 2, 3] = true) (zt7 hr2) ⟨⟨_, rfl, fun _ => rfl⟩, trivial⟩ ⟨rfl, rfl, rfl, rfl, trivial⟩) zd155_25 zxt156 rfl (by decide) (by decide) rfl ?_
    have hw := Option.some.inj h
    subst hw
    exact hvret _ _ _ _ zd155_28 trivial ⟨rfl, rfl, rfl⟩
-- 9: StarTales.columnOf(I)I
-- names: 
-- fields: ; arrays: ; out: [('ret', None)]
abbrev zy9 : zNL := (0, [], [], [], [])
theorem zyw9 : zv_wf zy9 = true := by decide +kernel
theorem zye9 : zv_ek2 zy9 = true := by decide +kernel
def zf9 (x0 : Int) : Option (Int) := some (zi_rem x0 24)
theorem zd31_0 : decode zxm31.2.1 0 = .ok (.iload_n 0, 1) := by decide +kernel
theorem zd31_1 : decode zxm31.2.1 1 = .ok (.bipush 24, 2) := by decide +kernel
theorem zd31_3 : decode zxm31.2.1 3 = .ok (.irem, 1) := by decide +kernel
theorem zd31_4 : decode zxm31.2.1 4 = .ok (.ireturn, 1) := by decide +kernel
theorem zt9 {x0 : Int} {o : Int} (h : zf9 x0 = some o) : zv_Fn z_TB z_cl z_KX zy9 zxm31 (0, 0) [.inl x0] [] [] (some o) [] [] := zv_meth (K := (z_KF0, z_KC0, z_KL0, z_KT0, [], [], [], none)) (FT := z_FT) (MT := z_MT) (n := 1) zxp31 (z_ks0 _ (fun _ h => List.mem_cons_of_mem _ h) _ _ _ _ (fun j r h _ => by cases h)) (fun _ _ => zs_KX_p) zyw9 (fun va F G h => by obtain ⟨rfl, _⟩ := h; rfl) rfl fun good va F G hB hret hvret hP => by
  obtain ⟨rfl, rfl, rfl⟩ := hP
  unfold zf9 at h
  refine zv_ild hB zd31_0 rfl rfl ?_
  refine zv_con hB zd31_1 rfl ?_
  refine zv_remw hB zd31_3 (by decide) ?_
  have hw := Option.some.inj h
  subst hw
  exact hret _ _ _ _ _ zd31_4 (by trivial) ⟨rfl, rfl, rfl⟩
-- 10: StarTales.rowOf(I)I
-- names: 
-- fields: ; arrays: ; out: [('ret', None)]
abbrev zy10 : zNL := (0, [], [], [], [])
theorem zyw10 : zv_wf zy10 = true := by decide +kernel
theorem zye10 : zv_ek2 zy10 = true := by decide +kernel
def zf10 (x0 : Int) : Option (Int) := some (zi_div x0 24)
theorem zd30_0 : decode zxm30.2.1 0 = .ok (.iload_n 0, 1) := by decide +kernel
theorem zd30_1 : decode zxm30.2.1 1 = .ok (.bipush 24, 2) := by decide +kernel
theorem zd30_3 : decode zxm30.2.1 3 = .ok (.idiv, 1) := by decide +kernel
theorem zd30_4 : decode zxm30.2.1 4 = .ok (.ireturn, 1) := by decide +kernel
theorem zt10 {x0 : Int} {o : Int} (h : zf10 x0 = some o) : zv_Fn z_TB z_cl z_KX zy10 zxm30 (0, 0) [.inl x0] [] [] (some o) [] [] := zv_meth (K := (z_KF0, z_KC0, z_KL0, z_KT0, [], [], [], none)) (FT := z_FT) (MT := z_MT) (n := 1) zxp30 (z_ks0 _ (fun _ h => List.mem_cons_of_mem _ h) _ _ _ _ (fun j r h _ => by cases h)) (fun _ _ => zs_KX_p) zyw10 (fun va F G h => by obtain ⟨rfl, _⟩ := h; rfl) rfl fun good va F G hB hret hvret hP => by
  obtain ⟨rfl, rfl, rfl⟩ := hP
  unfold zf10 at h
  refine zv_ild hB zd30_0 rfl rfl ?_
  refine zv_con hB zd30_1 rfl ?_
  refine zv_divw hB zd30_3 (by decide) ?_
  have hw := Option.some.inj h
  subst hw
  exact hret _ _ _ _ _ zd30_4 (by trivial) ⟨rfl, rfl, rfl⟩
-- 11: StarTales.isPlace(II)Z
-- names: 
-- fields: ; arrays: ; out: [('ret', None)]
abbrev zy11 : zNL := (0, [], [], [], [])
theorem zyw11 : zv_wf zy11 = true := by decide +kernel
theorem zye11 : zv_ek2 zy11 = true := by decide +kernel
def zf11 (x0 : Int) (x1 : Int) : Option (Int) := if x0 < 0 then (some 0) else (if x0 < 24 then (if x1 < 0 then (some 0) else (if x1 < 12 then (some 1) else (some 0))) else (some 0))
theorem zd16_0 : decode zxm16.2.1 0 = .ok (.iload_n 0, 1) := by decide +kernel
theorem zd16_1 : decode zxm16.2.1 1 = .ok (.ifCond .lt 23, 3) := by decide +kernel
theorem zd16_4 : decode zxm16.2.1 4 = .ok (.iload_n 0, 1) := by decide +kernel
theorem zd16_5 : decode zxm16.2.1 5 = .ok (.bipush 24, 2) := by decide +kernel
theorem zd16_7 : decode zxm16.2.1 7 = .ok (.if_icmp .ge 17, 3) := by decide +kernel
theorem zd16_10 : decode zxm16.2.1 10 = .ok (.iload_n 1, 1) := by decide +kernel
theorem zd16_11 : decode zxm16.2.1 11 = .ok (.ifCond .lt 13, 3) := by decide +kernel
theorem zd16_14 : decode zxm16.2.1 14 = .ok (.iload_n 1, 1) := by decide +kernel
theorem zd16_15 : decode zxm16.2.1 15 = .ok (.bipush 12, 2) := by decide +kernel
theorem zd16_17 : decode zxm16.2.1 17 = .ok (.if_icmp .ge 7, 3) := by decide +kernel
theorem zd16_20 : decode zxm16.2.1 20 = .ok (.iconst 1, 1) := by decide +kernel
theorem zd16_21 : decode zxm16.2.1 21 = .ok (.goto 4, 3) := by decide +kernel
theorem zd16_24 : decode zxm16.2.1 24 = .ok (.iconst 0, 1) := by decide +kernel
theorem zd16_25 : decode zxm16.2.1 25 = .ok (.ireturn, 1) := by decide +kernel
theorem zt11 {x0 : Int} {x1 : Int} {o : Int} (h : zf11 x0 x1 = some o) : zv_Fn z_TB z_cl z_KX zy11 zxm16 (0, 0) [.inl x0, .inl x1] [] [] (some o) [] [] := zv_meth (K := (z_KF0, z_KC0, z_KL0, z_KT0, [], [], [], none)) (FT := z_FT) (MT := z_MT) (n := 2) zxp16 (z_ks0 _ (fun _ h => List.mem_cons_of_mem _ h) _ _ _ _ (fun j r h _ => by cases h)) (fun _ _ => zs_KX_p) zyw11 (fun va F G h => by obtain ⟨rfl, _⟩ := h; rfl) rfl fun good va F G hB hret hvret hP => by
  obtain ⟨rfl, rfl, rfl⟩ := hP
  unfold zf11 at h
  refine zv_ild hB zd16_0 rfl rfl ?_
  refine zv_zlt hB zd16_1 rfl (fun hc1 => ?_) (fun hc1 => ?_)
  · rw [if_pos hc1] at h
    refine zv_con hB zd16_24 rfl ?_
    have hw := Option.some.inj h
    subst hw
    exact hret _ _ _ _ _ zd16_25 (by constructor <;> decide) ⟨rfl, rfl, rfl⟩
  · rw [if_neg (Int.not_lt.mpr hc1)] at h
    refine zv_ild hB zd16_4 rfl rfl ?_
    refine zv_con hB zd16_5 rfl ?_
    refine zv_cge hB zd16_7 rfl (fun hc2 => ?_) (fun hc2 => ?_)
    · rw [if_neg (Int.not_lt.mpr hc2)] at h
      refine zv_con hB zd16_24 rfl ?_
      have hw := Option.some.inj h
      subst hw
      exact hret _ _ _ _ _ zd16_25 (by constructor <;> decide) ⟨rfl, rfl, rfl⟩
    · rw [if_pos hc2] at h
      refine zv_ild hB zd16_10 rfl rfl ?_
      refine zv_zlt hB zd16_11 rfl (fun hc3 => ?_) (fun hc3 => ?_)
      · rw [if_pos hc3] at h
        refine zv_con hB zd16_24 rfl ?_
        have hw := Option.some.inj h
        subst hw
        exact hret _ _ _ _ _ zd16_25 (by constructor <;> decide) ⟨rfl, rfl, rfl⟩
      · rw [if_neg (Int.not_lt.mpr hc3)] at h
        refine zv_ild hB zd16_14 rfl rfl ?_
        refine zv_con hB zd16_15 rfl ?_
        refine zv_cge hB zd16_17 rfl (fun hc4 => ?_) (fun hc4 => ?_)
        · rw [if_neg (Int.not_lt.mpr hc4)] at h
          refine zv_con hB zd16_24 rfl ?_
          have hw := Option.some.inj h
          subst hw
          exact hret _ _ _ _ _ zd16_25 (by constructor <;> decide) ⟨rfl, rfl, rfl⟩
        · rw [if_pos hc4] at h
          refine zv_con hB zd16_20 rfl ?_
          refine zv_goto hB zd16_21 rfl ?_
          have hw := Option.some.inj h
          subst hw
          exact hret _ _ _ _ _ zd16_25 (by constructor <;> decide) ⟨rfl, rfl, rfl⟩
-- 12: StarTales.placeOf(II)I
-- names: 
-- fields: ; arrays: ; out: [('ret', None)]
abbrev zy12 : zNL := (0, [], [], [], [])
theorem zyw12 : zv_wf zy12 = true := by decide +kernel
theorem zye12 : zv_ek2 zy12 = true := by decide +kernel
def zf12 (x0 : Int) (x1 : Int) : Option (Int) := some (zi_w ((zi_w (24 * x1)) + x0))
theorem zd24_0 : decode zxm24.2.1 0 = .ok (.bipush 24, 2) := by decide +kernel
theorem zd24_2 : decode zxm24.2.1 2 = .ok (.iload_n 1, 1) := by decide +kernel
theorem zd24_3 : decode zxm24.2.1 3 = .ok (.imul, 1) := by decide +kernel
theorem zd24_4 : decode zxm24.2.1 4 = .ok (.iload_n 0, 1) := by decide +kernel
theorem zd24_5 : decode zxm24.2.1 5 = .ok (.iadd, 1) := by decide +kernel
theorem zd24_6 : decode zxm24.2.1 6 = .ok (.ireturn, 1) := by decide +kernel
theorem zt12 {x0 : Int} {x1 : Int} {o : Int} (h : zf12 x0 x1 = some o) : zv_Fn z_TB z_cl z_KX zy12 zxm24 (0, 0) [.inl x0, .inl x1] [] [] (some o) [] [] := zv_meth (K := (z_KF0, z_KC0, z_KL0, z_KT0, [], [], [], none)) (FT := z_FT) (MT := z_MT) (n := 2) zxp24 (z_ks0 _ (fun _ h => List.mem_cons_of_mem _ h) _ _ _ _ (fun j r h _ => by cases h)) (fun _ _ => zs_KX_p) zyw12 (fun va F G h => by obtain ⟨rfl, _⟩ := h; rfl) rfl fun good va F G hB hret hvret hP => by
  obtain ⟨rfl, rfl, rfl⟩ := hP
  unfold zf12 at h
  refine zv_con hB zd24_0 rfl ?_
  refine zv_ild hB zd24_2 rfl rfl ?_
  refine zv_mulw hB zd24_3 ?_
  refine zv_ild hB zd24_4 rfl rfl ?_
  refine zv_addw hB zd24_5 ?_
  have hw := Option.some.inj h
  subst hw
  exact hret _ _ _ _ _ zd24_6 (by trivial) ⟨rfl, rfl, rfl⟩
-- 13: StarTales$Sea.isLand(I)Z
-- names: 0 Sea('arg', 0), 1 (0, 12)(0, 2, 0)
-- fields: ; arrays: g0 = 1; out: [('ret', None)]
abbrev zy13 : zNL := (2, [(0, 2)], [], [(0, 2, 0, 1)], [(1, 0, 12, 0)])
theorem zyw13 : zv_wf zy13 = true := by decide +kernel
theorem zye13 : zv_ek2 zy13 = true := by decide +kernel
def zf13 (x1 : Int) (g0 : (Int → Int)) : Option (Int) := (zf10 x1).bind fun r1 => (cond (zi_ix r1 12) ((zf9 x1).bind fun r3 => (if (zi_and (zi_shr (g0 r1) r3) 1) = 0 then (some 0) else (some 1))) none)
theorem zd29_0 : decode zxm29.2.1 0 = .ok (.aload_n 0, 1) := by decide +kernel
theorem zd29_1 : decode zxm29.2.1 1 = .ok (.getfield 9, 3) := by decide +kernel
theorem zd29_4 : decode zxm29.2.1 4 = .ok (.iload_n 1, 1) := by decide +kernel
theorem zd29_5 : decode zxm29.2.1 5 = .ok (.invokestatic 22, 3) := by decide +kernel
theorem zd29_8 : decode zxm29.2.1 8 = .ok (.iaload, 1) := by decide +kernel
theorem zd29_9 : decode zxm29.2.1 9 = .ok (.iload_n 1, 1) := by decide +kernel
theorem zd29_10 : decode zxm29.2.1 10 = .ok (.invokestatic 26, 3) := by decide +kernel
theorem zd29_13 : decode zxm29.2.1 13 = .ok (.ishr, 1) := by decide +kernel
theorem zd29_14 : decode zxm29.2.1 14 = .ok (.iconst 1, 1) := by decide +kernel
theorem zd29_15 : decode zxm29.2.1 15 = .ok (.iand, 1) := by decide +kernel
theorem zd29_16 : decode zxm29.2.1 16 = .ok (.ifCond .eq 7, 3) := by decide +kernel
theorem zd29_19 : decode zxm29.2.1 19 = .ok (.iconst 1, 1) := by decide +kernel
theorem zd29_20 : decode zxm29.2.1 20 = .ok (.goto 4, 3) := by decide +kernel
theorem zd29_23 : decode zxm29.2.1 23 = .ok (.iconst 0, 1) := by decide +kernel
theorem zd29_24 : decode zxm29.2.1 24 = .ok (.ireturn, 1) := by decide +kernel
theorem zt13 {x1 : Int} {g0 : (Int → Int)} {o : Int} (h : zf13 x1 g0 = some o) : zv_Fn z_TB z_cl z_KX zy13 zxm29 (1, 60) [.inr 0, .inl x1] [] [g0] (some o) [] [g0] := zv_meth (K := (z_KF7, z_KC7, z_KL7, z_KT7, [], [], [], none)) (FT := z_FT) (MT := z_MT) (n := 2) zxp29 (z_ks7 _ (fun _ h => List.mem_cons_of_mem _ h) _ _ _ _ (fun j r h _ => by cases h)) (fun _ _ => zs_KX_p) zyw13 (fun va F G h => by obtain ⟨rfl, _⟩ := h; rfl) rfl fun good va F G hB hret hvret hP => by
  obtain ⟨rfl, rfl, rfl⟩ := hP
  unfold zf13 at h
  refine zv_ald hB zd29_0 rfl rfl rfl ?_
  refine zv_getr hB zd29_1 rfl ?_
  refine zv_ild hB zd29_4 rfl rfl ?_
  obtain ⟨r1, hr1, h⟩ := zi_bind h
  refine zv_cs hB (show zv_Fn _ _ _ zy13 _ _ [.inl x1] [] [g0] (some r1) [] [g0] from zv_emb (F := []) (G := [g0]) zyw10 zyw13 zye13 (by decide +kernel : zv_ek zy10 zy13 [] [] [] = true) (zt10 hr1) trivial trivial) zd29_5 zxt30 rfl (by decide) (by decide) rfl ?_
  obtain ⟨c2, h⟩ := zi_if h
  refine zv_iald hB zd29_8 rfl rfl (zi_ix_ok c2).1 (zi_ix_ok c2).2 (fun _ _ => ?_)
  refine zv_ild hB zd29_9 rfl rfl ?_
  obtain ⟨r3, hr3, h⟩ := zi_bind h
  refine zv_cs hB (show zv_Fn _ _ _ zy13 _ _ [.inl x1] [] [g0] (some r3) [] [g0] from zv_emb (F := []) (G := [g0]) zyw9 zyw13 zye13 (by decide +kernel : zv_ek zy9 zy13 [] [] [] = true) (zt9 hr3) trivial trivial) zd29_10 zxt31 rfl (by decide) (by decide) rfl ?_
  refine zv_shrw hB zd29_13 ?_
  refine zv_con hB zd29_14 rfl ?_
  refine zv_andw hB zd29_15 ?_
  refine zv_zeq hB zd29_16 rfl (fun hc4 => ?_) (fun hc4 => ?_)
  · rw [if_pos hc4] at h
    refine zv_con hB zd29_23 rfl ?_
    have hw := Option.some.inj h
    subst hw
    exact hret _ _ _ _ _ zd29_24 (by constructor <;> decide) ⟨rfl, rfl, rfl⟩
  · rw [if_neg hc4] at h
    refine zv_con hB zd29_19 rfl ?_
    refine zv_goto hB zd29_20 rfl ?_
    have hw := Option.some.inj h
    subst hw
    exact hret _ _ _ _ _ zd29_24 (by constructor <;> decide) ⟨rfl, rfl, rfl⟩
-- 14: StarTales$Sea.goFrom(II)I
-- names: 0 Sea('arg', 0), 1 (0, 12)(0, 2, 0)
-- fields: ; arrays: g0 = 1; out: [('ret', None)]
abbrev zy14 : zNL := (2, [(0, 2)], [], [(0, 2, 0, 1)], [(1, 0, 12, 0)])
theorem zyw14 : zv_wf zy14 = true := by decide +kernel
theorem zye14 : zv_ek2 zy14 = true := by decide +kernel
def zf14 (x1 : Int) (x2 : Int) (g0 : (Int → Int)) : Option (Int) := (zf9 x1).bind fun r1 => ((zf10 x1).bind fun r2 => (if x2 = 1 then ((zf11 (zi_rem (zi_w (r1 + 1)) 24) r2).bind fun r4 => (if r4 = 0 then (some (-1)) else ((zf12 (zi_rem (zi_w (r1 + 1)) 24) r2).bind fun r6 => ((zf13 r6 g0).bind fun r7 => (if r7 = 0 then ((zf12 (zi_rem (zi_w (r1 + 1)) 24) r2).bind fun r9 => (some r9)) else (some (-1))))))) else (if x2 = 2 then ((zf11 (zi_rem (zi_w ((zi_w (r1 + 24)) - 1)) 24) r2).bind fun r11 => (if r11 = 0 then (some (-1)) else ((zf12 (zi_rem (zi_w ((zi_w (r1 + 24)) - 1)) 24) r2).bind fun r13 => ((zf13 r13 g0).bind fun r14 => (if r14 = 0 then ((zf12 (zi_rem (zi_w ((zi_w (r1 + 24)) - 1)) 24) r2).bind fun r16 => (some r16)) else (some (-1))))))) else (if x2 = 3 then ((zf11 r1 (zi_w (r2 + 1))).bind fun r18 => (if r18 = 0 then (some (-1)) else ((zf12 r1 (zi_w (r2 + 1))).bind fun r20 => ((zf13 r20 g0).bind fun r21 => (if r21 = 0 then ((zf12 r1 (zi_w (r2 + 1))).bind fun r23 => (some r23)) else (some (-1))))))) else (if x2 = 4 then ((zf11 r1 (zi_w (r2 + (-1)))).bind fun r25 => (if r25 = 0 then (some (-1)) else ((zf12 r1 (zi_w (r2 + (-1)))).bind fun r27 => ((zf13 r27 g0).bind fun r28 => (if r28 = 0 then ((zf12 r1 (zi_w (r2 + (-1)))).bind fun r30 => (some r30)) else (some (-1))))))) else ((zf11 r1 r2).bind fun r31 => (if r31 = 0 then (some (-1)) else ((zf12 r1 r2).bind fun r33 => ((zf13 r33 g0).bind fun r34 => (if r34 = 0 then ((zf12 r1 r2).bind fun r36 => (some r36)) else (some (-1))))))))))))
theorem zd154_0 : decode zxm154.2.1 0 = .ok (.iload_n 1, 1) := by decide +kernel
theorem zd154_1 : decode zxm154.2.1 1 = .ok (.invokestatic 26, 3) := by decide +kernel
theorem zd154_4 : decode zxm154.2.1 4 = .ok (.istore_n 3, 1) := by decide +kernel
theorem zd154_5 : decode zxm154.2.1 5 = .ok (.iload_n 1, 1) := by decide +kernel
theorem zd154_6 : decode zxm154.2.1 6 = .ok (.invokestatic 22, 3) := by decide +kernel
theorem zd154_9 : decode zxm154.2.1 9 = .ok (.istore 4, 2) := by decide +kernel
theorem zd154_11 : decode zxm154.2.1 11 = .ok (.iload_n 2, 1) := by decide +kernel
theorem zd154_12 : decode zxm154.2.1 12 = .ok (.tableswitch 67 1 4 #[32, 42, 55, 61], 32) := by decide +kernel
theorem zd154_44 : decode zxm154.2.1 44 = .ok (.iload_n 3, 1) := by decide +kernel
theorem zd154_45 : decode zxm154.2.1 45 = .ok (.iconst 1, 1) := by decide +kernel
theorem zd154_46 : decode zxm154.2.1 46 = .ok (.iadd, 1) := by decide +kernel
theorem zd154_47 : decode zxm154.2.1 47 = .ok (.bipush 24, 2) := by decide +kernel
theorem zd154_49 : decode zxm154.2.1 49 = .ok (.irem, 1) := by decide +kernel
theorem zd154_50 : decode zxm154.2.1 50 = .ok (.istore_n 3, 1) := by decide +kernel
theorem zd154_51 : decode zxm154.2.1 51 = .ok (.goto 28, 3) := by decide +kernel
theorem zd154_54 : decode zxm154.2.1 54 = .ok (.iload_n 3, 1) := by decide +kernel
theorem zd154_55 : decode zxm154.2.1 55 = .ok (.bipush 24, 2) := by decide +kernel
theorem zd154_57 : decode zxm154.2.1 57 = .ok (.iadd, 1) := by decide +kernel
theorem zd154_58 : decode zxm154.2.1 58 = .ok (.iconst 1, 1) := by decide +kernel
theorem zd154_59 : decode zxm154.2.1 59 = .ok (.isub, 1) := by decide +kernel
theorem zd154_60 : decode zxm154.2.1 60 = .ok (.bipush 24, 2) := by decide +kernel
theorem zd154_62 : decode zxm154.2.1 62 = .ok (.irem, 1) := by decide +kernel
theorem zd154_63 : decode zxm154.2.1 63 = .ok (.istore_n 3, 1) := by decide +kernel
theorem zd154_64 : decode zxm154.2.1 64 = .ok (.goto 15, 3) := by decide +kernel
theorem zd154_67 : decode zxm154.2.1 67 = .ok (.iinc 4 1, 3) := by decide +kernel
theorem zd154_70 : decode zxm154.2.1 70 = .ok (.goto 9, 3) := by decide +kernel
theorem zd154_73 : decode zxm154.2.1 73 = .ok (.iinc 4 (-1), 3) := by decide +kernel
theorem zd154_76 : decode zxm154.2.1 76 = .ok (.goto 3, 3) := by decide +kernel
theorem zd154_79 : decode zxm154.2.1 79 = .ok (.iload_n 3, 1) := by decide +kernel
theorem zd154_80 : decode zxm154.2.1 80 = .ok (.iload 4, 2) := by decide +kernel
theorem zd154_82 : decode zxm154.2.1 82 = .ok (.invokestatic 38, 3) := by decide +kernel
theorem zd154_85 : decode zxm154.2.1 85 = .ok (.ifCond .eq 16, 3) := by decide +kernel
theorem zd154_88 : decode zxm154.2.1 88 = .ok (.aload_n 0, 1) := by decide +kernel
theorem zd154_89 : decode zxm154.2.1 89 = .ok (.iload_n 3, 1) := by decide +kernel
theorem zd154_90 : decode zxm154.2.1 90 = .ok (.iload 4, 2) := by decide +kernel
theorem zd154_92 : decode zxm154.2.1 92 = .ok (.invokestatic 42, 3) := by decide +kernel
theorem zd154_95 : decode zxm154.2.1 95 = .ok (.invokevirtual 46, 3) := by decide +kernel
theorem zd154_98 : decode zxm154.2.1 98 = .ok (.ifCond .eq 7, 3) := by decide +kernel
theorem zd154_101 : decode zxm154.2.1 101 = .ok (.iconst (-1), 1) := by decide +kernel
theorem zd154_102 : decode zxm154.2.1 102 = .ok (.goto 9, 3) := by decide +kernel
theorem zd154_105 : decode zxm154.2.1 105 = .ok (.iload_n 3, 1) := by decide +kernel
theorem zd154_106 : decode zxm154.2.1 106 = .ok (.iload 4, 2) := by decide +kernel
theorem zd154_108 : decode zxm154.2.1 108 = .ok (.invokestatic 42, 3) := by decide +kernel
theorem zd154_111 : decode zxm154.2.1 111 = .ok (.ireturn, 1) := by decide +kernel
theorem zt14 {x1 : Int} {x2 : Int} {g0 : (Int → Int)} {o : Int} (h : zf14 x1 x2 g0 = some o) : zv_Fn z_TB z_cl z_KX zy14 zxm154 (2, 120) [.inr 0, .inl x1, .inl x2] [] [g0] (some o) [] [g0] := zv_meth (K := (z_KF7, z_KC7, z_KL7, z_KT7, [], [], [], none)) (FT := z_FT) (MT := z_MT) (n := 3) zxp154 (z_ks7 _ (fun _ h => List.mem_cons_of_mem _ h) _ _ _ _ (fun j r h _ => by cases h)) (fun _ _ => zs_KX_p) zyw14 (fun va F G h => by obtain ⟨rfl, _⟩ := h; rfl) rfl fun good va F G hB hret hvret hP => by
  obtain ⟨rfl, rfl, rfl⟩ := hP
  unfold zf14 at h
  refine zv_ild hB zd154_0 rfl rfl ?_
  obtain ⟨r1, hr1, h⟩ := zi_bind h
  refine zv_cs hB (show zv_Fn _ _ _ zy14 _ _ [.inl x1] [] [g0] (some r1) [] [g0] from zv_emb (F := []) (G := [g0]) zyw9 zyw14 zye14 (by decide +kernel : zv_ek zy9 zy14 [] [] [] = true) (zt9 hr1) trivial trivial) zd154_1 zxt31 rfl (by decide) (by decide) rfl ?_
  refine zv_ist hB zd154_4 rfl rfl rfl ?_
  refine zv_ild hB zd154_5 rfl rfl ?_
  obtain ⟨r2, hr2, h⟩ := zi_bind h
  refine zv_cs hB (show zv_Fn _ _ _ zy14 _ _ [.inl x1] [] [g0] (some r2) [] [g0] from zv_emb (F := []) (G := [g0]) zyw10 zyw14 zye14 (by decide +kernel : zv_ek zy10 zy14 [] [] [] = true) (zt10 hr2) trivial trivial) zd154_6 zxt30 rfl (by decide) (by decide) rfl ?_
  refine zv_ist hB zd154_9 rfl rfl rfl ?_
  refine zv_ild hB zd154_11 rfl rfl ?_
  refine zv_tsw hB zd154_12 rfl ?_
  refine ⟨fun hc3 => ⟨_, rfl, ?_⟩, fun hc3 => ?_⟩
  · replace hc3 : x2 = 1 := hc3
    rw [if_pos hc3] at h
    refine zv_ild hB zd154_44 rfl rfl ?_
    refine zv_con hB zd154_45 rfl ?_
    refine zv_addw hB zd154_46 ?_
    refine zv_con hB zd154_47 rfl ?_
    refine zv_remw hB zd154_49 (by decide) ?_
    refine zv_ist hB zd154_50 rfl rfl rfl ?_
    refine zv_goto hB zd154_51 rfl ?_
    refine zv_ild hB zd154_79 rfl rfl ?_
    refine zv_ild hB zd154_80 rfl rfl ?_
    obtain ⟨r4, hr4, h⟩ := zi_bind h
    refine zv_cs hB (show zv_Fn _ _ _ zy14 _ _ [.inl (zi_rem (zi_w (r1 + 1)) 24), .inl r2] [] [g0] (some r4) [] [g0] from zv_emb (F := []) (G := [g0]) zyw11 zyw14 zye14 (by decide +kernel : zv_ek zy11 zy14 [] [] [] = true) (zt11 hr4) trivial trivial) zd154_82 zxt16 rfl (by decide) (by decide) rfl ?_
    refine zv_zeq hB zd154_85 rfl (fun hc5 => ?_) (fun hc5 => ?_)
    · rw [if_pos hc5] at h
      refine zv_con hB zd154_101 rfl ?_
      refine zv_goto hB zd154_102 rfl ?_
      have hw := Option.some.inj h
      subst hw
      exact hret _ _ _ _ _ zd154_111 (by trivial) ⟨rfl, rfl, rfl⟩
    · rw [if_neg hc5] at h
      refine zv_ald hB zd154_88 rfl rfl rfl ?_
      refine zv_ild hB zd154_89 rfl rfl ?_
      refine zv_ild hB zd154_90 rfl rfl ?_
      obtain ⟨r6, hr6, h⟩ := zi_bind h
      refine zv_cs hB (show zv_Fn _ _ _ zy14 _ _ [.inl (zi_rem (zi_w (r1 + 1)) 24), .inl r2] [] [g0] (some r6) [] [g0] from zv_emb (F := []) (G := [g0]) zyw12 zyw14 zye14 (by decide +kernel : zv_ek zy12 zy14 [] [] [] = true) (zt12 hr6) trivial trivial) zd154_92 zxt24 rfl (by decide) (by decide) rfl ?_
      obtain ⟨r7, hr7, h⟩ := zi_bind h
      refine zv_cv hB (show zv_Fn _ _ _ zy14 _ _ [.inr 0, .inl r6] [] [g0] (some r7) [] [g0] from zv_emb (F := []) (G := [g0]) zyw13 zyw14 zye14 (by decide +kernel : zv_ek zy13 zy14 [0, 1] [] [0] = true) (zt13 hr7) trivial ⟨rfl, trivial⟩) zd154_95 zxt29 rfl (by decide) (by decide) rfl ?_
      refine zv_zeq hB zd154_98 rfl (fun hc8 => ?_) (fun hc8 => ?_)
      · rw [if_pos hc8] at h
        refine zv_ild hB zd154_105 rfl rfl ?_
        refine zv_ild hB zd154_106 rfl rfl ?_
        obtain ⟨r9, hr9, h⟩ := zi_bind h
        refine zv_cs hB (show zv_Fn _ _ _ zy14 _ _ [.inl (zi_rem (zi_w (r1 + 1)) 24), .inl r2] [] [g0] (some r9) [] [g0] from zv_emb (F := []) (G := [g0]) zyw12 zyw14 zye14 (by decide +kernel : zv_ek zy12 zy14 [] [] [] = true) (zt12 hr9) trivial trivial) zd154_108 zxt24 rfl (by decide) (by decide) rfl ?_
        have hw := Option.some.inj h
        subst hw
        exact hret _ _ _ _ _ zd154_111 (by trivial) ⟨rfl, rfl, rfl⟩
      · rw [if_neg hc8] at h
        refine zv_con hB zd154_101 rfl ?_
        refine zv_goto hB zd154_102 rfl ?_
        have hw := Option.some.inj h
        subst hw
        exact hret _ _ _ _ _ zd154_111 (by trivial) ⟨rfl, rfl, rfl⟩
  replace hc3 : x2 ≠ 1 := hc3
  rw [if_neg hc3] at h
  refine ⟨fun hc10 => ⟨_, rfl, ?_⟩, fun hc10 => ?_⟩
  · replace hc10 : x2 = 2 := hc10
    rw [if_pos hc10] at h
    refine zv_ild hB zd154_54 rfl rfl ?_
    refine zv_con hB zd154_55 rfl ?_
    refine zv_addw hB zd154_57 ?_
    refine zv_con hB zd154_58 rfl ?_
    refine zv_subw hB zd154_59 ?_
    refine zv_con hB zd154_60 rfl ?_
    refine zv_remw hB zd154_62 (by decide) ?_
    refine zv_ist hB zd154_63 rfl rfl rfl ?_
    refine zv_goto hB zd154_64 rfl ?_
    refine zv_ild hB zd154_79 rfl rfl ?_
    refine zv_ild hB zd154_80 rfl rfl ?_
    obtain ⟨r11, hr11, h⟩ := zi_bind h
    refine zv_cs hB (show zv_Fn _ _ _ zy14 _ _ [.inl (zi_rem (zi_w ((zi_w (r1 + 24)) - 1)) 24), .inl r2] [] [g0] (some r11) [] [g0] from zv_emb (F := []) (G := [g0]) zyw11 zyw14 zye14 (by decide +kernel : zv_ek zy11 zy14 [] [] [] = true) (zt11 hr11) trivial trivial) zd154_82 zxt16 rfl (by decide) (by decide) rfl ?_
    refine zv_zeq hB zd154_85 rfl (fun hc12 => ?_) (fun hc12 => ?_)
    · rw [if_pos hc12] at h
      refine zv_con hB zd154_101 rfl ?_
      refine zv_goto hB zd154_102 rfl ?_
      have hw := Option.some.inj h
      subst hw
      exact hret _ _ _ _ _ zd154_111 (by trivial) ⟨rfl, rfl, rfl⟩
    · rw [if_neg hc12] at h
      refine zv_ald hB zd154_88 rfl rfl rfl ?_
      refine zv_ild hB zd154_89 rfl rfl ?_
      refine zv_ild hB zd154_90 rfl rfl ?_
      obtain ⟨r13, hr13, h⟩ := zi_bind h
      refine zv_cs hB (show zv_Fn _ _ _ zy14 _ _ [.inl (zi_rem (zi_w ((zi_w (r1 + 24)) - 1)) 24), .inl r2] [] [g0] (some r13) [] [g0] from zv_emb (F := []) (G := [g0]) zyw12 zyw14 zye14 (by decide +kernel : zv_ek zy12 zy14 [] [] [] = true) (zt12 hr13) trivial trivial) zd154_92 zxt24 rfl (by decide) (by decide) rfl ?_
      obtain ⟨r14, hr14, h⟩ := zi_bind h
      refine zv_cv hB (show zv_Fn _ _ _ zy14 _ _ [.inr 0, .inl r13] [] [g0] (some r14) [] [g0] from zv_emb (F := []) (G := [g0]) zyw13 zyw14 zye14 (by decide +kernel : zv_ek zy13 zy14 [0, 1] [] [0] = true) (zt13 hr14) trivial ⟨rfl, trivial⟩) zd154_95 zxt29 rfl (by decide) (by decide) rfl ?_
      refine zv_zeq hB zd154_98 rfl (fun hc15 => ?_) (fun hc15 => ?_)
      · rw [if_pos hc15] at h
        refine zv_ild hB zd154_105 rfl rfl ?_
        refine zv_ild hB zd154_106 rfl rfl ?_
        obtain ⟨r16, hr16, h⟩ := zi_bind h
        refine zv_cs hB (show zv_Fn _ _ _ zy14 _ _ [.inl (zi_rem (zi_w ((zi_w (r1 + 24)) - 1)) 24), .inl r2] [] [g0] (some r16) [] [g0] from zv_emb (F := []) (G := [g0]) zyw12 zyw14 zye14 (by decide +kernel : zv_ek zy12 zy14 [] [] [] = true) (zt12 hr16) trivial trivial) zd154_108 zxt24 rfl (by decide) (by decide) rfl ?_
        have hw := Option.some.inj h
        subst hw
        exact hret _ _ _ _ _ zd154_111 (by trivial) ⟨rfl, rfl, rfl⟩
      · rw [if_neg hc15] at h
        refine zv_con hB zd154_101 rfl ?_
        refine zv_goto hB zd154_102 rfl ?_
        have hw := Option.some.inj h
        subst hw
        exact hret _ _ _ _ _ zd154_111 (by trivial) ⟨rfl, rfl, rfl⟩
  replace hc10 : x2 ≠ 2 := hc10
  rw [if_neg hc10] at h
  refine ⟨fun hc17 => ⟨_, rfl, ?_⟩, fun hc17 => ?_⟩
  · replace hc17 : x2 = 3 := hc17
    rw [if_pos hc17] at h
    refine zv_iincw hB zd154_67 rfl rfl ?_
    refine zv_goto hB zd154_70 rfl ?_
    refine zv_ild hB zd154_79 rfl rfl ?_
    refine zv_ild hB zd154_80 rfl rfl ?_
    obtain ⟨r18, hr18, h⟩ := zi_bind h
    refine zv_cs hB (show zv_Fn _ _ _ zy14 _ _ [.inl r1, .inl (zi_w (r2 + 1))] [] [g0] (some r18) [] [g0] from zv_emb (F := []) (G := [g0]) zyw11 zyw14 zye14 (by decide +kernel : zv_ek zy11 zy14 [] [] [] = true) (zt11 hr18) trivial trivial) zd154_82 zxt16 rfl (by decide) (by decide) rfl ?_
    refine zv_zeq hB zd154_85 rfl (fun hc19 => ?_) (fun hc19 => ?_)
    · rw [if_pos hc19] at h
      refine zv_con hB zd154_101 rfl ?_
      refine zv_goto hB zd154_102 rfl ?_
      have hw := Option.some.inj h
      subst hw
      exact hret _ _ _ _ _ zd154_111 (by trivial) ⟨rfl, rfl, rfl⟩
    · rw [if_neg hc19] at h
      refine zv_ald hB zd154_88 rfl rfl rfl ?_
      refine zv_ild hB zd154_89 rfl rfl ?_
      refine zv_ild hB zd154_90 rfl rfl ?_
      obtain ⟨r20, hr20, h⟩ := zi_bind h
      refine zv_cs hB (show zv_Fn _ _ _ zy14 _ _ [.inl r1, .inl (zi_w (r2 + 1))] [] [g0] (some r20) [] [g0] from zv_emb (F := []) (G := [g0]) zyw12 zyw14 zye14 (by decide +kernel : zv_ek zy12 zy14 [] [] [] = true) (zt12 hr20) trivial trivial) zd154_92 zxt24 rfl (by decide) (by decide) rfl ?_
      obtain ⟨r21, hr21, h⟩ := zi_bind h
      refine zv_cv hB (show zv_Fn _ _ _ zy14 _ _ [.inr 0, .inl r20] [] [g0] (some r21) [] [g0] from zv_emb (F := []) (G := [g0]) zyw13 zyw14 zye14 (by decide +kernel : zv_ek zy13 zy14 [0, 1] [] [0] = true) (zt13 hr21) trivial ⟨rfl, trivial⟩) zd154_95 zxt29 rfl (by decide) (by decide) rfl ?_
      refine zv_zeq hB zd154_98 rfl (fun hc22 => ?_) (fun hc22 => ?_)
      · rw [if_pos hc22] at h
        refine zv_ild hB zd154_105 rfl rfl ?_
        refine zv_ild hB zd154_106 rfl rfl ?_
        obtain ⟨r23, hr23, h⟩ := zi_bind h
        refine zv_cs hB (show zv_Fn _ _ _ zy14 _ _ [.inl r1, .inl (zi_w (r2 + 1))] [] [g0] (some r23) [] [g0] from zv_emb (F := []) (G := [g0]) zyw12 zyw14 zye14 (by decide +kernel : zv_ek zy12 zy14 [] [] [] = true) (zt12 hr23) trivial trivial) zd154_108 zxt24 rfl (by decide) (by decide) rfl ?_
        have hw := Option.some.inj h
        subst hw
        exact hret _ _ _ _ _ zd154_111 (by trivial) ⟨rfl, rfl, rfl⟩
      · rw [if_neg hc22] at h
        refine zv_con hB zd154_101 rfl ?_
        refine zv_goto hB zd154_102 rfl ?_
        have hw := Option.some.inj h
        subst hw
        exact hret _ _ _ _ _ zd154_111 (by trivial) ⟨rfl, rfl, rfl⟩
  replace hc17 : x2 ≠ 3 := hc17
  rw [if_neg hc17] at h
  refine ⟨fun hc24 => ⟨_, rfl, ?_⟩, fun hc24 => ?_⟩
  · replace hc24 : x2 = 4 := hc24
    rw [if_pos hc24] at h
    refine zv_iincw hB zd154_73 rfl rfl ?_
    refine zv_goto hB zd154_76 rfl ?_
    refine zv_ild hB zd154_79 rfl rfl ?_
    refine zv_ild hB zd154_80 rfl rfl ?_
    obtain ⟨r25, hr25, h⟩ := zi_bind h
    refine zv_cs hB (show zv_Fn _ _ _ zy14 _ _ [.inl r1, .inl (zi_w (r2 + (-1)))] [] [g0] (some r25) [] [g0] from zv_emb (F := []) (G := [g0]) zyw11 zyw14 zye14 (by decide +kernel : zv_ek zy11 zy14 [] [] [] = true) (zt11 hr25) trivial trivial) zd154_82 zxt16 rfl (by decide) (by decide) rfl ?_
    refine zv_zeq hB zd154_85 rfl (fun hc26 => ?_) (fun hc26 => ?_)
    · rw [if_pos hc26] at h
      refine zv_con hB zd154_101 rfl ?_
      refine zv_goto hB zd154_102 rfl ?_
      have hw := Option.some.inj h
      subst hw
      exact hret _ _ _ _ _ zd154_111 (by trivial) ⟨rfl, rfl, rfl⟩
    · rw [if_neg hc26] at h
      refine zv_ald hB zd154_88 rfl rfl rfl ?_
      refine zv_ild hB zd154_89 rfl rfl ?_
      refine zv_ild hB zd154_90 rfl rfl ?_
      obtain ⟨r27, hr27, h⟩ := zi_bind h
      refine zv_cs hB (show zv_Fn _ _ _ zy14 _ _ [.inl r1, .inl (zi_w (r2 + (-1)))] [] [g0] (some r27) [] [g0] from zv_emb (F := []) (G := [g0]) zyw12 zyw14 zye14 (by decide +kernel : zv_ek zy12 zy14 [] [] [] = true) (zt12 hr27) trivial trivial) zd154_92 zxt24 rfl (by decide) (by decide) rfl ?_
      obtain ⟨r28, hr28, h⟩ := zi_bind h
      refine zv_cv hB (show zv_Fn _ _ _ zy14 _ _ [.inr 0, .inl r27] [] [g0] (some r28) [] [g0] from zv_emb (F := []) (G := [g0]) zyw13 zyw14 zye14 (by decide +kernel : zv_ek zy13 zy14 [0, 1] [] [0] = true) (zt13 hr28) trivial ⟨rfl, trivial⟩) zd154_95 zxt29 rfl (by decide) (by decide) rfl ?_
      refine zv_zeq hB zd154_98 rfl (fun hc29 => ?_) (fun hc29 => ?_)
      · rw [if_pos hc29] at h
        refine zv_ild hB zd154_105 rfl rfl ?_
        refine zv_ild hB zd154_106 rfl rfl ?_
        obtain ⟨r30, hr30, h⟩ := zi_bind h
        refine zv_cs hB (show zv_Fn _ _ _ zy14 _ _ [.inl r1, .inl (zi_w (r2 + (-1)))] [] [g0] (some r30) [] [g0] from zv_emb (F := []) (G := [g0]) zyw12 zyw14 zye14 (by decide +kernel : zv_ek zy12 zy14 [] [] [] = true) (zt12 hr30) trivial trivial) zd154_108 zxt24 rfl (by decide) (by decide) rfl ?_
        have hw := Option.some.inj h
        subst hw
        exact hret _ _ _ _ _ zd154_111 (by trivial) ⟨rfl, rfl, rfl⟩
      · rw [if_neg hc29] at h
        refine zv_con hB zd154_101 rfl ?_
        refine zv_goto hB zd154_102 rfl ?_
        have hw := Option.some.inj h
        subst hw
        exact hret _ _ _ _ _ zd154_111 (by trivial) ⟨rfl, rfl, rfl⟩
  replace hc24 : x2 ≠ 4 := hc24
  rw [if_neg hc24] at h
  refine ⟨_, rfl, ?_⟩
  refine zv_ild hB zd154_79 rfl rfl ?_
  refine zv_ild hB zd154_80 rfl rfl ?_
  obtain ⟨r31, hr31, h⟩ := zi_bind h
  refine zv_cs hB (show zv_Fn _ _ _ zy14 _ _ [.inl r1, .inl r2] [] [g0] (some r31) [] [g0] from zv_emb (F := []) (G := [g0]) zyw11 zyw14 zye14 (by decide +kernel : zv_ek zy11 zy14 [] [] [] = true) (zt11 hr31) trivial trivial) zd154_82 zxt16 rfl (by decide) (by decide) rfl ?_
  refine zv_zeq hB zd154_85 rfl (fun hc32 => ?_) (fun hc32 => ?_)
  · rw [if_pos hc32] at h
    refine zv_con hB zd154_101 rfl ?_
    refine zv_goto hB zd154_102 rfl ?_
    have hw := Option.some.inj h
    subst hw
    exact hret _ _ _ _ _ zd154_111 (by trivial) ⟨rfl, rfl, rfl⟩
  · rw [if_neg hc32] at h
    refine zv_ald hB zd154_88 rfl rfl rfl ?_
    refine zv_ild hB zd154_89 rfl rfl ?_
    refine zv_ild hB zd154_90 rfl rfl ?_
    obtain ⟨r33, hr33, h⟩ := zi_bind h
    refine zv_cs hB (show zv_Fn _ _ _ zy14 _ _ [.inl r1, .inl r2] [] [g0] (some r33) [] [g0] from zv_emb (F := []) (G := [g0]) zyw12 zyw14 zye14 (by decide +kernel : zv_ek zy12 zy14 [] [] [] = true) (zt12 hr33) trivial trivial) zd154_92 zxt24 rfl (by decide) (by decide) rfl ?_
    obtain ⟨r34, hr34, h⟩ := zi_bind h
    refine zv_cv hB (show zv_Fn _ _ _ zy14 _ _ [.inr 0, .inl r33] [] [g0] (some r34) [] [g0] from zv_emb (F := []) (G := [g0]) zyw13 zyw14 zye14 (by decide +kernel : zv_ek zy13 zy14 [0, 1] [] [0] = true) (zt13 hr34) trivial ⟨rfl, trivial⟩) zd154_95 zxt29 rfl (by decide) (by decide) rfl ?_
    refine zv_zeq hB zd154_98 rfl (fun hc35 => ?_) (fun hc35 => ?_)
    · rw [if_pos hc35] at h
      refine zv_ild hB zd154_105 rfl rfl ?_
      refine zv_ild hB zd154_106 rfl rfl ?_
      obtain ⟨r36, hr36, h⟩ := zi_bind h
      refine zv_cs hB (show zv_Fn _ _ _ zy14 _ _ [.inl r1, .inl r2] [] [g0] (some r36) [] [g0] from zv_emb (F := []) (G := [g0]) zyw12 zyw14 zye14 (by decide +kernel : zv_ek zy12 zy14 [] [] [] = true) (zt12 hr36) trivial trivial) zd154_108 zxt24 rfl (by decide) (by decide) rfl ?_
      have hw := Option.some.inj h
      subst hw
      exact hret _ _ _ _ _ zd154_111 (by trivial) ⟨rfl, rfl, rfl⟩
    · rw [if_neg hc35] at h
      refine zv_con hB zd154_101 rfl ?_
      refine zv_goto hB zd154_102 rfl ?_
      have hw := Option.some.inj h
      subst hw
      exact hret _ _ _ _ _ zd154_111 (by trivial) ⟨rfl, rfl, rfl⟩
