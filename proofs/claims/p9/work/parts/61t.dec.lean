/-! Methods as functions, and that they do what these do. -/
/-! M_isShip (I)Z -/
-- names: 0 StarTalesModel('arg', 0), 1 (0, 422)(0, 12, 0)
-- fields: ; arrays: g0 = 1; out: [('ret', None)]
abbrev zy_M_isShip : zNL := (2, [(0, 12)], [], [(0, 12, 0, 1)], [(1, 0, 422, 0)])
theorem zyw_M_isShip : zv_wf zy_M_isShip = true := by decide +kernel
theorem zye_M_isShip : zv_ek2 zy_M_isShip = true := by decide +kernel
def zf_M_isShip (x1 : Int) (g0 : (Int → Int)) : Option (Int) := if x1 < 0 then (some 0) else (if x1 < 6 then ((zf_M_has (g0 127) x1).bind fun r3 => (if r3 = 0 then (some 0) else (some 1))) else (some 0))
theorem zd210_0 : decode zxm210.2.1 0 = .ok (.iload_n 1, 1) := by decide +kernel
theorem zd210_1 : decode zxm210.2.1 1 = .ok (.ifCond .lt 27, 3) := by decide +kernel
theorem zd210_4 : decode zxm210.2.1 4 = .ok (.iload_n 1, 1) := by decide +kernel
theorem zd210_5 : decode zxm210.2.1 5 = .ok (.bipush 6, 2) := by decide +kernel
theorem zd210_7 : decode zxm210.2.1 7 = .ok (.if_icmp .ge 21, 3) := by decide +kernel
theorem zd210_10 : decode zxm210.2.1 10 = .ok (.aload_n 0, 1) := by decide +kernel
theorem zd210_11 : decode zxm210.2.1 11 = .ok (.getfield 7, 3) := by decide +kernel
theorem zd210_14 : decode zxm210.2.1 14 = .ok (.bipush 127, 2) := by decide +kernel
theorem zd210_16 : decode zxm210.2.1 16 = .ok (.iaload, 1) := by decide +kernel
theorem zd210_17 : decode zxm210.2.1 17 = .ok (.iload_n 1, 1) := by decide +kernel
theorem zd210_18 : decode zxm210.2.1 18 = .ok (.invokestatic 138, 3) := by decide +kernel
theorem zd210_21 : decode zxm210.2.1 21 = .ok (.ifCond .eq 7, 3) := by decide +kernel
theorem zd210_24 : decode zxm210.2.1 24 = .ok (.iconst 1, 1) := by decide +kernel
theorem zd210_25 : decode zxm210.2.1 25 = .ok (.goto 4, 3) := by decide +kernel
theorem zd210_28 : decode zxm210.2.1 28 = .ok (.iconst 0, 1) := by decide +kernel
theorem zd210_29 : decode zxm210.2.1 29 = .ok (.ireturn, 1) := by decide +kernel
theorem zt_M_isShip {x1 : Int} {g0 : (Int → Int)} {o : Int} (h : zf_M_isShip x1 g0 = some o) : zv_Fn z_TB z_cl z_KX zy_M_isShip zxm210 (1, 60) [.inr 0, .inl x1] [] [g0] (some o) [] [g0] := zv_meth (K := (z_KF13, z_KC13, z_KL13, z_KT13, [], [], [], none)) (FT := z_FT) (MT := z_MT) (n := 2) zxp210 (z_ks13 _ (fun _ h => List.mem_cons_of_mem _ h) _ _ _ _ (fun j r h _ => by cases h)) (fun _ _ => zs_KX_p) zyw_M_isShip (fun va F G h => by obtain ⟨rfl, _⟩ := h; rfl) (fun va F G h => by obtain ⟨rfl, _⟩ := h; rfl) rfl fun good va F G hB hret hvret hP => by
  obtain ⟨rfl, rfl, rfl⟩ := hP
  unfold zf_M_isShip at h
  refine zv_ild hB zd210_0 rfl rfl ?_
  refine zv_zlt hB zd210_1 rfl (fun hc1 => ?_) (fun hc1 => ?_)
  · rw [if_pos hc1] at h
    refine zv_con hB zd210_28 rfl ?_
    have hw := Option.some.inj h
    subst hw
    exact hret _ _ _ _ _ zd210_29 (by constructor <;> decide) ⟨rfl, rfl, rfl⟩
  · rw [if_neg (Int.not_lt.mpr hc1)] at h
    refine zv_ild hB zd210_4 rfl rfl ?_
    refine zv_con hB zd210_5 rfl ?_
    refine zv_cge hB zd210_7 rfl (fun hc2 => ?_) (fun hc2 => ?_)
    · rw [if_neg (Int.not_lt.mpr hc2)] at h
      refine zv_con hB zd210_28 rfl ?_
      have hw := Option.some.inj h
      subst hw
      exact hret _ _ _ _ _ zd210_29 (by constructor <;> decide) ⟨rfl, rfl, rfl⟩
    · rw [if_pos hc2] at h
      refine zv_ald hB zd210_10 rfl rfl rfl ?_
      refine zv_getr hB zd210_11 rfl ?_
      refine zv_con hB zd210_14 rfl ?_
      refine zv_iald hB zd210_16 rfl rfl (by decide) (by decide) (fun _ _ => ?_)
      refine zv_ild hB zd210_17 rfl rfl ?_
      obtain ⟨r3, hr3, h⟩ := zi_bind h
      refine zv_cs hB (zv_emq (va2 := [.inl (g0 127), .inl x1]) (F := []) (F' := []) (G := [g0]) (G' := [g0]) (ρ := []) (φ := []) (ψ := []) [] [none] zyw_M_has zyw_M_isShip zye_M_isShip (by decide +kernel) (zt_M_has hr3) trivial trivial rfl rfl rfl rfl rfl rfl rfl) zd210_18 zxt204 rfl (by decide) (by decide) rfl ?_
      refine zv_zeq hB zd210_21 rfl (fun hc4 => ?_) (fun hc4 => ?_)
      · rw [if_pos hc4] at h
        refine zv_con hB zd210_28 rfl ?_
        have hw := Option.some.inj h
        subst hw
        exact hret _ _ _ _ _ zd210_29 (by constructor <;> decide) ⟨rfl, rfl, rfl⟩
      · rw [if_neg hc4] at h
        refine zv_con hB zd210_24 rfl ?_
        refine zv_goto hB zd210_25 rfl ?_
        have hw := Option.some.inj h
        subst hw
        exact hret _ _ _ _ _ zd210_29 (by constructor <;> decide) ⟨rfl, rfl, rfl⟩
/-! M_land (IIZ)Z -/
-- names: 0 StarTalesModel('arg', 0), 1 (0, 422)(0, 12, 0)
-- fields: ; arrays: g0 = 1; out: [('ret', None), ('g', 0)]
abbrev zy_M_land : zNL := (2, [(0, 12)], [], [(0, 12, 0, 1)], [(1, 0, 422, 0)])
theorem zyw_M_land : zv_wf zy_M_land = true := by decide +kernel
theorem zye_M_land : zv_ek2 zy_M_land = true := by decide +kernel
def zf_M_land_l0_b (x1 : Int) (x2 : Int) (g0 : (Int → Int)) (rec : Int → Option (((Unit) ⊕ (Int × (Int → Int))))) (x4 : Int) : Option (((Unit) ⊕ (Int × (Int → Int)))) := if x4 < 6 then ((zf_M_isShip x4 g0).bind fun r4 => (if r4 = 0 then (rec (zi_w (x4 + 1))) else (cond (zi_ix (zi_w (120 + x4)) 422) (if (g0 (zi_w (120 + x4))) = (zi_w ((zi_w (24 * x2)) + x1)) then (some (.inr (0, g0))) else (rec (zi_w (x4 + 1)))) none))) else (some (.inl ()))
def zf_M_land_l0 (x1 : Int) (x2 : Int) (g0 : (Int → Int)) : Nat → Int → Option (((Unit) ⊕ (Int × (Int → Int))))
  | 0, _ => none
  | n + 1, x4 => zf_M_land_l0_b x1 x2 g0 (zf_M_land_l0 x1 x2 g0 n) x4
def zf_M_land (x1 : Int) (x2 : Int) (x3 : Int) (g0 : (Int → Int)) : Option (Int × (Int → Int)) := (zf_M_isPlace x1 x2).bind fun r1 => (if r1 = 0 then (some (0, g0)) else ((zf_M_land_l0 x1 x2 g0 zi_fu 0).bind fun q8 => Sum.elim (fun e9 => (if x3 = 0 then (cond (zi_ix (zi_w ((zi_w (134 + (zi_w (24 * x2)))) + x1)) 422) (some (1, (zv_up g0 (zi_w ((zi_w (134 + (zi_w (24 * x2)))) + x1)) 0))) none) else (cond (zi_ix (zi_w ((zi_w (134 + (zi_w (24 * x2)))) + x1)) 422) (some (1, (zv_up g0 (zi_w ((zi_w (134 + (zi_w (24 * x2)))) + x1)) 1))) none))) (fun w13 => some w13) q8))
theorem zd209_0 : decode zxm209.2.1 0 = .ok (.iload_n 1, 1) := by decide +kernel
theorem zd209_1 : decode zxm209.2.1 1 = .ok (.iload_n 2, 1) := by decide +kernel
theorem zd209_2 : decode zxm209.2.1 2 = .ok (.invokestatic 154, 3) := by decide +kernel
theorem zd209_5 : decode zxm209.2.1 5 = .ok (.ifCond .ne 5, 3) := by decide +kernel
theorem zd209_8 : decode zxm209.2.1 8 = .ok (.iconst 0, 1) := by decide +kernel
theorem zd209_9 : decode zxm209.2.1 9 = .ok (.ireturn, 1) := by decide +kernel
theorem zd209_10 : decode zxm209.2.1 10 = .ok (.iconst 0, 1) := by decide +kernel
theorem zd209_11 : decode zxm209.2.1 11 = .ok (.istore 4, 2) := by decide +kernel
theorem zd209_13 : decode zxm209.2.1 13 = .ok (.iload 4, 2) := by decide +kernel
theorem zd209_15 : decode zxm209.2.1 15 = .ok (.bipush 6, 2) := by decide +kernel
theorem zd209_17 : decode zxm209.2.1 17 = .ok (.if_icmp .ge 39, 3) := by decide +kernel
theorem zd209_20 : decode zxm209.2.1 20 = .ok (.aload_n 0, 1) := by decide +kernel
theorem zd209_21 : decode zxm209.2.1 21 = .ok (.iload 4, 2) := by decide +kernel
theorem zd209_23 : decode zxm209.2.1 23 = .ok (.invokevirtual 162, 3) := by decide +kernel
theorem zd209_26 : decode zxm209.2.1 26 = .ok (.ifCond .eq 24, 3) := by decide +kernel
theorem zd209_29 : decode zxm209.2.1 29 = .ok (.aload_n 0, 1) := by decide +kernel
theorem zd209_30 : decode zxm209.2.1 30 = .ok (.getfield 7, 3) := by decide +kernel
theorem zd209_33 : decode zxm209.2.1 33 = .ok (.bipush 120, 2) := by decide +kernel
theorem zd209_35 : decode zxm209.2.1 35 = .ok (.iload 4, 2) := by decide +kernel
theorem zd209_37 : decode zxm209.2.1 37 = .ok (.iadd, 1) := by decide +kernel
theorem zd209_38 : decode zxm209.2.1 38 = .ok (.iaload, 1) := by decide +kernel
theorem zd209_39 : decode zxm209.2.1 39 = .ok (.bipush 24, 2) := by decide +kernel
theorem zd209_41 : decode zxm209.2.1 41 = .ok (.iload_n 2, 1) := by decide +kernel
theorem zd209_42 : decode zxm209.2.1 42 = .ok (.imul, 1) := by decide +kernel
theorem zd209_43 : decode zxm209.2.1 43 = .ok (.iload_n 1, 1) := by decide +kernel
theorem zd209_44 : decode zxm209.2.1 44 = .ok (.iadd, 1) := by decide +kernel
theorem zd209_45 : decode zxm209.2.1 45 = .ok (.if_icmp .ne 5, 3) := by decide +kernel
theorem zd209_48 : decode zxm209.2.1 48 = .ok (.iconst 0, 1) := by decide +kernel
theorem zd209_49 : decode zxm209.2.1 49 = .ok (.ireturn, 1) := by decide +kernel
theorem zd209_50 : decode zxm209.2.1 50 = .ok (.iinc 4 1, 3) := by decide +kernel
theorem zd209_53 : decode zxm209.2.1 53 = .ok (.goto (-40), 3) := by decide +kernel
theorem zd209_56 : decode zxm209.2.1 56 = .ok (.aload_n 0, 1) := by decide +kernel
theorem zd209_57 : decode zxm209.2.1 57 = .ok (.getfield 7, 3) := by decide +kernel
theorem zd209_60 : decode zxm209.2.1 60 = .ok (.sipush 134, 3) := by decide +kernel
theorem zd209_63 : decode zxm209.2.1 63 = .ok (.bipush 24, 2) := by decide +kernel
theorem zd209_65 : decode zxm209.2.1 65 = .ok (.iload_n 2, 1) := by decide +kernel
theorem zd209_66 : decode zxm209.2.1 66 = .ok (.imul, 1) := by decide +kernel
theorem zd209_67 : decode zxm209.2.1 67 = .ok (.iadd, 1) := by decide +kernel
theorem zd209_68 : decode zxm209.2.1 68 = .ok (.iload_n 1, 1) := by decide +kernel
theorem zd209_69 : decode zxm209.2.1 69 = .ok (.iadd, 1) := by decide +kernel
theorem zd209_70 : decode zxm209.2.1 70 = .ok (.iload_n 3, 1) := by decide +kernel
theorem zd209_71 : decode zxm209.2.1 71 = .ok (.ifCond .eq 7, 3) := by decide +kernel
theorem zd209_74 : decode zxm209.2.1 74 = .ok (.iconst 1, 1) := by decide +kernel
theorem zd209_75 : decode zxm209.2.1 75 = .ok (.goto 4, 3) := by decide +kernel
theorem zd209_78 : decode zxm209.2.1 78 = .ok (.iconst 0, 1) := by decide +kernel
theorem zd209_79 : decode zxm209.2.1 79 = .ok (.iastore, 1) := by decide +kernel
theorem zd209_80 : decode zxm209.2.1 80 = .ok (.iconst 1, 1) := by decide +kernel
theorem zd209_81 : decode zxm209.2.1 81 = .ok (.ireturn, 1) := by decide +kernel
theorem zt_M_land {x1 : Int} {x2 : Int} {x3 : Int} {g0 : (Int → Int)} {o : Int × (Int → Int)} (h : zf_M_land x1 x2 x3 g0 = some o) : zv_Fn z_TB z_cl z_KX zy_M_land zxm209 (2, 120) [.inr 0, .inl x1, .inl x2, .inl x3] [] [g0] (some o.1) [] [o.2] := zv_meth (K := (z_KF13, z_KC13, z_KL13, z_KT13, [], [], [], none)) (FT := z_FT) (MT := z_MT) (n := 4) zxp209 (z_ks13 _ (fun _ h => List.mem_cons_of_mem _ h) _ _ _ _ (fun j r h _ => by cases h)) (fun _ _ => zs_KX_p) zyw_M_land (fun va F G h => by obtain ⟨rfl, _⟩ := h; rfl) (fun va F G h => by obtain ⟨rfl, _⟩ := h; rfl) rfl fun good va F G hB hret hvret hP => by
  obtain ⟨rfl, rfl, rfl⟩ := hP
  have l0 : ∀ (n : Nat) (x1 : Int) (x2 : Int) (x3 : Int) (x4 : Int) (g0 : (Int → Int)) (q : ((Unit) ⊕ (Int × (Int → Int)))), zf_M_land_l0 x1 x2 g0 n x4 = some q → (Sum.elim (fun e : Unit => good 56 [.inr 0, .inl x1, .inl x2, .inl x3, .inr 1000] [] [] [g0]) (fun w : Int × (Int → Int) => w = o) q) → good 13 [.inr 0, .inl x1, .inl x2, .inl x3, .inl x4] [] [] [g0] := by
    intro n
    induction n with
    | zero => intro x1 x2 x3 x4 g0 q h; exact absurd (show none = some q from h) (fun h => by cases h)
    | succ n ih =>
      intro x1 x2 x3 x4 g0 q h hK
      replace h : zf_M_land_l0_b x1 x2 g0 (zf_M_land_l0 x1 x2 g0 n) x4 = some q := h
      unfold zf_M_land_l0_b at h
      refine zv_ild hB zd209_13 rfl rfl ?_
      refine zv_con hB zd209_15 rfl ?_
      refine zv_cge hB zd209_17 rfl (fun hc3 => ?_) (fun hc3 => ?_)
      · rw [if_neg (Int.not_lt.mpr hc3)] at h
        have hq := Option.some.inj h
        subst hq
        refine zv_wk hB (L' := [.inr 0, .inl x1, .inl x2, .inl x3, .inr 1000]) (F' := []) ⟨fun _ => rfl, fun _ => rfl, fun _ => rfl, fun _ => rfl, fun (h : zv_is (.inr 1000)) => (Nat.lt_irrefl 1000 h).elim, trivial⟩ trivial ?_
        exact hK
      · rw [if_pos hc3] at h
        refine zv_ald hB zd209_20 rfl rfl rfl ?_
        refine zv_ild hB zd209_21 rfl rfl ?_
        obtain ⟨r4, hr4, h⟩ := zi_bind h
        refine zv_cv hB (zv_emq (va2 := [.inr 0, .inl x4]) (F := []) (F' := []) (G := [g0]) (G' := [g0]) (ρ := [0, 1]) (φ := []) (ψ := [0]) [] [some 0] zyw_M_isShip zyw_M_land zye_M_land (by decide +kernel) (zt_M_isShip hr4) trivial ⟨rfl, trivial⟩ rfl rfl rfl rfl rfl rfl rfl) zd209_23 zxt210 rfl (by decide) (by decide) rfl ?_
        refine zv_zeq hB zd209_26 rfl (fun hc5 => ?_) (fun hc5 => ?_)
        · rw [if_pos hc5] at h
          refine zv_iincw hB zd209_50 rfl rfl ?_
          refine zv_goto hB zd209_53 rfl ?_
          exact ih _ _ _ _ _ q h hK
        · rw [if_neg hc5] at h
          refine zv_ald hB zd209_29 rfl rfl rfl ?_
          refine zv_getr hB zd209_30 rfl ?_
          refine zv_con hB zd209_33 rfl ?_
          refine zv_ild hB zd209_35 rfl rfl ?_
          refine zv_addw hB zd209_37 ?_
          obtain ⟨c6, h⟩ := zi_if h
          refine zv_iald hB zd209_38 rfl rfl (zi_ix_ok c6).1 (zi_ix_ok c6).2 (fun _ _ => ?_)
          refine zv_con hB zd209_39 rfl ?_
          refine zv_ild hB zd209_41 rfl rfl ?_
          refine zv_mulw hB zd209_42 ?_
          refine zv_ild hB zd209_43 rfl rfl ?_
          refine zv_addw hB zd209_44 ?_
          refine zv_cne hB zd209_45 rfl (fun hc7 => ?_) (fun hc7 => ?_)
          · rw [if_neg hc7] at h
            refine zv_iincw hB zd209_50 rfl rfl ?_
            refine zv_goto hB zd209_53 rfl ?_
            exact ih _ _ _ _ _ q h hK
          · rw [if_pos hc7] at h
            refine zv_con hB zd209_48 rfl ?_
            have hw : (0, g0) = o := zi_rk (Option.some.inj h) hK
            subst hw
            exact hret _ _ _ _ _ zd209_49 (by constructor <;> decide) ⟨rfl, rfl, rfl⟩
  unfold zf_M_land at h
  refine zv_ild hB zd209_0 rfl rfl ?_
  refine zv_ild hB zd209_1 rfl rfl ?_
  obtain ⟨r1, hr1, h⟩ := zi_bind h
  refine zv_cs hB (zv_emq (va2 := [.inl x1, .inl x2]) (F := []) (F' := []) (G := [g0]) (G' := [g0]) (ρ := []) (φ := []) (ψ := []) [] [none] zyw_M_isPlace zyw_M_land zye_M_land (by decide +kernel) (zt_M_isPlace hr1) trivial trivial rfl rfl rfl rfl rfl rfl rfl) zd209_2 zxt201 rfl (by decide) (by decide) rfl ?_
  refine zv_zne hB zd209_5 rfl (fun hc2 => ?_) (fun hc2 => ?_)
  · rw [if_neg hc2] at h
    refine zv_con hB zd209_10 rfl ?_
    refine zv_ist hB zd209_11 rfl rfl rfl ?_
    obtain ⟨q8, hq8, h⟩ := zi_bind h
    refine l0 _ _ _ _ _ _ q8 hq8 ?_
    rcases q8 with e9 | w13
    · replace h := zi_sl h
      show good 56 [.inr 0, .inl x1, .inl x2, .inl x3, .inr 1000] [] [] [g0]
      refine zv_ald hB zd209_56 rfl rfl rfl ?_
      refine zv_getr hB zd209_57 rfl ?_
      refine zv_con hB zd209_60 rfl ?_
      refine zv_con hB zd209_63 rfl ?_
      refine zv_ild hB zd209_65 rfl rfl ?_
      refine zv_mulw hB zd209_66 ?_
      refine zv_addw hB zd209_67 ?_
      refine zv_ild hB zd209_68 rfl rfl ?_
      refine zv_addw hB zd209_69 ?_
      refine zv_ild hB zd209_70 rfl rfl ?_
      refine zv_zeq hB zd209_71 rfl (fun hc10 => ?_) (fun hc10 => ?_)
      · rw [if_pos hc10] at h
        refine zv_con hB zd209_78 rfl ?_
        obtain ⟨c11, h⟩ := zi_if h
        refine zv_iast hB zd209_79 rfl rfl (zi_ix_ok c11).1 (zi_ix_ok c11).2 ?_
        refine zv_con hB zd209_80 rfl ?_
        have hw := Option.some.inj h
        subst hw
        exact hret _ _ _ _ _ zd209_81 (by constructor <;> decide) ⟨rfl, rfl, rfl⟩
      · rw [if_neg hc10] at h
        refine zv_con hB zd209_74 rfl ?_
        refine zv_goto hB zd209_75 rfl ?_
        obtain ⟨c12, h⟩ := zi_if h
        refine zv_iast hB zd209_79 rfl rfl (zi_ix_ok c12).1 (zi_ix_ok c12).2 ?_
        refine zv_con hB zd209_80 rfl ?_
        have hw := Option.some.inj h
        subst hw
        exact hret _ _ _ _ _ zd209_81 (by constructor <;> decide) ⟨rfl, rfl, rfl⟩
    · exact Option.some.inj h
  · rw [if_pos hc2] at h
    refine zv_con hB zd209_8 rfl ?_
    have hw := Option.some.inj h
    subst hw
    exact hret _ _ _ _ _ zd209_9 (by constructor <;> decide) ⟨rfl, rfl, rfl⟩
/-! M_isLand (I)Z -/
-- names: 0 StarTalesModel('arg', 0), 1 (0, 422)(0, 12, 0)
-- fields: ; arrays: g0 = 1; out: [('ret', None)]
abbrev zy_M_isLand : zNL := (2, [(0, 12)], [], [(0, 12, 0, 1)], [(1, 0, 422, 0)])
theorem zyw_M_isLand : zv_wf zy_M_isLand = true := by decide +kernel
theorem zye_M_isLand : zv_ek2 zy_M_isLand = true := by decide +kernel
def zf_M_isLand (x1 : Int) (g0 : (Int → Int)) : Option (Int) := cond (zi_ix (zi_w (134 + x1)) 422) (if (g0 (zi_w (134 + x1))) = 1 then (some 1) else (some 0)) none
theorem zd212_0 : decode zxm212.2.1 0 = .ok (.aload_n 0, 1) := by decide +kernel
theorem zd212_1 : decode zxm212.2.1 1 = .ok (.getfield 7, 3) := by decide +kernel
theorem zd212_4 : decode zxm212.2.1 4 = .ok (.sipush 134, 3) := by decide +kernel
theorem zd212_7 : decode zxm212.2.1 7 = .ok (.iload_n 1, 1) := by decide +kernel
theorem zd212_8 : decode zxm212.2.1 8 = .ok (.iadd, 1) := by decide +kernel
theorem zd212_9 : decode zxm212.2.1 9 = .ok (.iaload, 1) := by decide +kernel
theorem zd212_10 : decode zxm212.2.1 10 = .ok (.iconst 1, 1) := by decide +kernel
theorem zd212_11 : decode zxm212.2.1 11 = .ok (.if_icmp .ne 7, 3) := by decide +kernel
theorem zd212_14 : decode zxm212.2.1 14 = .ok (.iconst 1, 1) := by decide +kernel
theorem zd212_15 : decode zxm212.2.1 15 = .ok (.goto 4, 3) := by decide +kernel
theorem zd212_18 : decode zxm212.2.1 18 = .ok (.iconst 0, 1) := by decide +kernel
theorem zd212_19 : decode zxm212.2.1 19 = .ok (.ireturn, 1) := by decide +kernel
theorem zt_M_isLand {x1 : Int} {g0 : (Int → Int)} {o : Int} (h : zf_M_isLand x1 g0 = some o) : zv_Fn z_TB z_cl z_KX zy_M_isLand zxm212 (0, 0) [.inr 0, .inl x1] [] [g0] (some o) [] [g0] := zv_meth (K := (z_KF13, z_KC13, z_KL13, z_KT13, [], [], [], none)) (FT := z_FT) (MT := z_MT) (n := 2) zxp212 (z_ks13 _ (fun _ h => List.mem_cons_of_mem _ h) _ _ _ _ (fun j r h _ => by cases h)) (fun _ _ => zs_KX_p) zyw_M_isLand (fun va F G h => by obtain ⟨rfl, _⟩ := h; rfl) (fun va F G h => by obtain ⟨rfl, _⟩ := h; rfl) rfl fun good va F G hB hret hvret hP => by
  obtain ⟨rfl, rfl, rfl⟩ := hP
  unfold zf_M_isLand at h
  refine zv_ald hB zd212_0 rfl rfl rfl ?_
  refine zv_getr hB zd212_1 rfl ?_
  refine zv_con hB zd212_4 rfl ?_
  refine zv_ild hB zd212_7 rfl rfl ?_
  refine zv_addw hB zd212_8 ?_
  obtain ⟨c1, h⟩ := zi_if h
  refine zv_iald hB zd212_9 rfl rfl (zi_ix_ok c1).1 (zi_ix_ok c1).2 (fun _ _ => ?_)
  refine zv_con hB zd212_10 rfl ?_
  refine zv_cne hB zd212_11 rfl (fun hc2 => ?_) (fun hc2 => ?_)
  · rw [if_neg hc2] at h
    refine zv_con hB zd212_18 rfl ?_
    have hw := Option.some.inj h
    subst hw
    exact hret _ _ _ _ _ zd212_19 (by constructor <;> decide) ⟨rfl, rfl, rfl⟩
  · rw [if_pos hc2] at h
    refine zv_con hB zd212_14 rfl ?_
    refine zv_goto hB zd212_15 rfl ?_
    have hw := Option.some.inj h
    subst hw
    exact hret _ _ _ _ _ zd212_19 (by constructor <;> decide) ⟨rfl, rfl, rfl⟩
/-! M_ship (III)Z -/
-- names: 0 StarTalesModel('arg', 0), 1 (0, 422)(0, 12, 0)
-- fields: ; arrays: g0 = 1; out: [('ret', None), ('g', 0)]
abbrev zy_M_ship : zNL := (2, [(0, 12)], [], [(0, 12, 0, 1)], [(1, 0, 422, 0)])
theorem zyw_M_ship : zv_wf zy_M_ship = true := by decide +kernel
theorem zye_M_ship : zv_ek2 zy_M_ship = true := by decide +kernel
def zf_M_ship (x1 : Int) (x2 : Int) (x3 : Int) (g0 : (Int → Int)) : Option (Int × (Int → Int)) := (zf_M_in x1 0 5).bind fun r1 => (if r1 = 0 then (some (0, g0)) else ((zf_M_isPlace x2 x3).bind fun r3 => (if r3 = 0 then (some (0, g0)) else ((zf_M_isLand (zi_w ((zi_w (24 * x3)) + x2)) g0).bind fun r5 => (if r5 = 0 then (cond (zi_ix (zi_w (120 + x1)) 422) (some (1, (zv_up (zv_up g0 127 (zi_or (g0 127) (zi_shl 1 x1))) (zi_w (120 + x1)) (zi_w ((zi_w (24 * x3)) + x2))))) none) else (some (0, g0)))))))
theorem zd211_0 : decode zxm211.2.1 0 = .ok (.iload_n 1, 1) := by decide +kernel
theorem zd211_1 : decode zxm211.2.1 1 = .ok (.iconst 0, 1) := by decide +kernel
theorem zd211_2 : decode zxm211.2.1 2 = .ok (.iconst 5, 1) := by decide +kernel
theorem zd211_3 : decode zxm211.2.1 3 = .ok (.invokestatic 150, 3) := by decide +kernel
theorem zd211_6 : decode zxm211.2.1 6 = .ok (.ifCond .eq 24, 3) := by decide +kernel
theorem zd211_9 : decode zxm211.2.1 9 = .ok (.iload_n 2, 1) := by decide +kernel
theorem zd211_10 : decode zxm211.2.1 10 = .ok (.iload_n 3, 1) := by decide +kernel
theorem zd211_11 : decode zxm211.2.1 11 = .ok (.invokestatic 154, 3) := by decide +kernel
theorem zd211_14 : decode zxm211.2.1 14 = .ok (.ifCond .eq 16, 3) := by decide +kernel
theorem zd211_17 : decode zxm211.2.1 17 = .ok (.aload_n 0, 1) := by decide +kernel
theorem zd211_18 : decode zxm211.2.1 18 = .ok (.bipush 24, 2) := by decide +kernel
theorem zd211_20 : decode zxm211.2.1 20 = .ok (.iload_n 3, 1) := by decide +kernel
theorem zd211_21 : decode zxm211.2.1 21 = .ok (.imul, 1) := by decide +kernel
theorem zd211_22 : decode zxm211.2.1 22 = .ok (.iload_n 2, 1) := by decide +kernel
theorem zd211_23 : decode zxm211.2.1 23 = .ok (.iadd, 1) := by decide +kernel
theorem zd211_24 : decode zxm211.2.1 24 = .ok (.invokevirtual 165, 3) := by decide +kernel
theorem zd211_27 : decode zxm211.2.1 27 = .ok (.ifCond .eq 5, 3) := by decide +kernel
theorem zd211_30 : decode zxm211.2.1 30 = .ok (.iconst 0, 1) := by decide +kernel
theorem zd211_31 : decode zxm211.2.1 31 = .ok (.ireturn, 1) := by decide +kernel
theorem zd211_32 : decode zxm211.2.1 32 = .ok (.aload_n 0, 1) := by decide +kernel
theorem zd211_33 : decode zxm211.2.1 33 = .ok (.getfield 7, 3) := by decide +kernel
theorem zd211_36 : decode zxm211.2.1 36 = .ok (.bipush 127, 2) := by decide +kernel
theorem zd211_38 : decode zxm211.2.1 38 = .ok (.aload_n 0, 1) := by decide +kernel
theorem zd211_39 : decode zxm211.2.1 39 = .ok (.getfield 7, 3) := by decide +kernel
theorem zd211_42 : decode zxm211.2.1 42 = .ok (.bipush 127, 2) := by decide +kernel
theorem zd211_44 : decode zxm211.2.1 44 = .ok (.iaload, 1) := by decide +kernel
theorem zd211_45 : decode zxm211.2.1 45 = .ok (.iconst 1, 1) := by decide +kernel
theorem zd211_46 : decode zxm211.2.1 46 = .ok (.iload_n 1, 1) := by decide +kernel
theorem zd211_47 : decode zxm211.2.1 47 = .ok (.ishl, 1) := by decide +kernel
theorem zd211_48 : decode zxm211.2.1 48 = .ok (.ior, 1) := by decide +kernel
theorem zd211_49 : decode zxm211.2.1 49 = .ok (.iastore, 1) := by decide +kernel
theorem zd211_50 : decode zxm211.2.1 50 = .ok (.aload_n 0, 1) := by decide +kernel
theorem zd211_51 : decode zxm211.2.1 51 = .ok (.getfield 7, 3) := by decide +kernel
theorem zd211_54 : decode zxm211.2.1 54 = .ok (.bipush 120, 2) := by decide +kernel
theorem zd211_56 : decode zxm211.2.1 56 = .ok (.iload_n 1, 1) := by decide +kernel
theorem zd211_57 : decode zxm211.2.1 57 = .ok (.iadd, 1) := by decide +kernel
theorem zd211_58 : decode zxm211.2.1 58 = .ok (.bipush 24, 2) := by decide +kernel
theorem zd211_60 : decode zxm211.2.1 60 = .ok (.iload_n 3, 1) := by decide +kernel
theorem zd211_61 : decode zxm211.2.1 61 = .ok (.imul, 1) := by decide +kernel
theorem zd211_62 : decode zxm211.2.1 62 = .ok (.iload_n 2, 1) := by decide +kernel
theorem zd211_63 : decode zxm211.2.1 63 = .ok (.iadd, 1) := by decide +kernel
theorem zd211_64 : decode zxm211.2.1 64 = .ok (.iastore, 1) := by decide +kernel
theorem zd211_65 : decode zxm211.2.1 65 = .ok (.iconst 1, 1) := by decide +kernel
theorem zd211_66 : decode zxm211.2.1 66 = .ok (.ireturn, 1) := by decide +kernel
theorem zt_M_ship {x1 : Int} {x2 : Int} {x3 : Int} {g0 : (Int → Int)} {o : Int × (Int → Int)} (h : zf_M_ship x1 x2 x3 g0 = some o) : zv_Fn z_TB z_cl z_KX zy_M_ship zxm211 (1, 60) [.inr 0, .inl x1, .inl x2, .inl x3] [] [g0] (some o.1) [] [o.2] := zv_meth (K := (z_KF13, z_KC13, z_KL13, z_KT13, [], [], [], none)) (FT := z_FT) (MT := z_MT) (n := 4) zxp211 (z_ks13 _ (fun _ h => List.mem_cons_of_mem _ h) _ _ _ _ (fun j r h _ => by cases h)) (fun _ _ => zs_KX_p) zyw_M_ship (fun va F G h => by obtain ⟨rfl, _⟩ := h; rfl) (fun va F G h => by obtain ⟨rfl, _⟩ := h; rfl) rfl fun good va F G hB hret hvret hP => by
  obtain ⟨rfl, rfl, rfl⟩ := hP
  unfold zf_M_ship at h
  refine zv_ild hB zd211_0 rfl rfl ?_
  refine zv_con hB zd211_1 rfl ?_
  refine zv_con hB zd211_2 rfl ?_
  obtain ⟨r1, hr1, h⟩ := zi_bind h
  refine zv_cs hB (zv_emq (va2 := [.inl x1, .inl 0, .inl 5]) (F := []) (F' := []) (G := [g0]) (G' := [g0]) (ρ := []) (φ := []) (ψ := []) [] [none] zyw_M_in zyw_M_ship zye_M_ship (by decide +kernel) (zt_M_in hr1) trivial trivial rfl rfl rfl rfl rfl rfl rfl) zd211_3 zxt200 rfl (by decide) (by decide) rfl ?_
  refine zv_zeq hB zd211_6 rfl (fun hc2 => ?_) (fun hc2 => ?_)
  · rw [if_pos hc2] at h
    refine zv_con hB zd211_30 rfl ?_
    have hw := Option.some.inj h
    subst hw
    exact hret _ _ _ _ _ zd211_31 (by constructor <;> decide) ⟨rfl, rfl, rfl⟩
  · rw [if_neg hc2] at h
    refine zv_ild hB zd211_9 rfl rfl ?_
    refine zv_ild hB zd211_10 rfl rfl ?_
    obtain ⟨r3, hr3, h⟩ := zi_bind h
    refine zv_cs hB (zv_emq (va2 := [.inl x2, .inl x3]) (F := []) (F' := []) (G := [g0]) (G' := [g0]) (ρ := []) (φ := []) (ψ := []) [] [none] zyw_M_isPlace zyw_M_ship zye_M_ship (by decide +kernel) (zt_M_isPlace hr3) trivial trivial rfl rfl rfl rfl rfl rfl rfl) zd211_11 zxt201 rfl (by decide) (by decide) rfl ?_
    refine zv_zeq hB zd211_14 rfl (fun hc4 => ?_) (fun hc4 => ?_)
    · rw [if_pos hc4] at h
      refine zv_con hB zd211_30 rfl ?_
      have hw := Option.some.inj h
      subst hw
      exact hret _ _ _ _ _ zd211_31 (by constructor <;> decide) ⟨rfl, rfl, rfl⟩
    · rw [if_neg hc4] at h
      refine zv_ald hB zd211_17 rfl rfl rfl ?_
      refine zv_con hB zd211_18 rfl ?_
      refine zv_ild hB zd211_20 rfl rfl ?_
      refine zv_mulw hB zd211_21 ?_
      refine zv_ild hB zd211_22 rfl rfl ?_
      refine zv_addw hB zd211_23 ?_
      obtain ⟨r5, hr5, h⟩ := zi_bind h
      refine zv_cv hB (zv_emq (va2 := [.inr 0, .inl (zi_w ((zi_w (24 * x3)) + x2))]) (F := []) (F' := []) (G := [g0]) (G' := [g0]) (ρ := [0, 1]) (φ := []) (ψ := [0]) [] [some 0] zyw_M_isLand zyw_M_ship zye_M_ship (by decide +kernel) (zt_M_isLand hr5) trivial ⟨rfl, trivial⟩ rfl rfl rfl rfl rfl rfl rfl) zd211_24 zxt212 rfl (by decide) (by decide) rfl ?_
      refine zv_zeq hB zd211_27 rfl (fun hc6 => ?_) (fun hc6 => ?_)
      · rw [if_pos hc6] at h
        refine zv_ald hB zd211_32 rfl rfl rfl ?_
        refine zv_getr hB zd211_33 rfl ?_
        refine zv_con hB zd211_36 rfl ?_
        refine zv_ald hB zd211_38 rfl rfl rfl ?_
        refine zv_getr hB zd211_39 rfl ?_
        refine zv_con hB zd211_42 rfl ?_
        refine zv_iald hB zd211_44 rfl rfl (by decide) (by decide) (fun _ _ => ?_)
        refine zv_con hB zd211_45 rfl ?_
        refine zv_ild hB zd211_46 rfl rfl ?_
        refine zv_shlw hB zd211_47 ?_
        refine zv_orw hB zd211_48 ?_
        refine zv_iast hB zd211_49 rfl rfl (by decide) (by decide) ?_
        refine zv_ald hB zd211_50 rfl rfl rfl ?_
        refine zv_getr hB zd211_51 rfl ?_
        refine zv_con hB zd211_54 rfl ?_
        refine zv_ild hB zd211_56 rfl rfl ?_
        refine zv_addw hB zd211_57 ?_
        refine zv_con hB zd211_58 rfl ?_
        refine zv_ild hB zd211_60 rfl rfl ?_
        refine zv_mulw hB zd211_61 ?_
        refine zv_ild hB zd211_62 rfl rfl ?_
        refine zv_addw hB zd211_63 ?_
        obtain ⟨c7, h⟩ := zi_if h
        refine zv_iast hB zd211_64 rfl rfl (zi_ix_ok c7).1 (zi_ix_ok c7).2 ?_
        refine zv_con hB zd211_65 rfl ?_
        have hw := Option.some.inj h
        subst hw
        exact hret _ _ _ _ _ zd211_66 (by constructor <;> decide) ⟨rfl, rfl, rfl⟩
      · rw [if_neg hc6] at h
        refine zv_con hB zd211_30 rfl ?_
        have hw := Option.some.inj h
        subst hw
        exact hret _ _ _ _ _ zd211_31 (by constructor <;> decide) ⟨rfl, rfl, rfl⟩
/-! M_types (I)V -/
-- names: 0 StarTalesModel('arg', 0), 1 (1, 220)(0, 12, 3)
-- fields: f0 = 0.taped_; arrays: g0 = 1; out: [('f', 0), ('g', 0)]
abbrev zy_M_types : zNL := (2, [(0, 12)], [(0, 12, 4, 0)], [(0, 12, 3, 1)], [(1, 1, 220, 0)])
theorem zyw_M_types : zv_wf zy_M_types = true := by decide +kernel
theorem zye_M_types : zv_ek2 zy_M_types = true := by decide +kernel
def zf_M_types_l0_b (x1 : Int) (rec : Int → Int → (Int → Int) → Option (Int × (Int → Int))) (x2 : Int) (f0 : Int) (g0 : (Int → Int)) : Option (Int × (Int → Int)) := if x2 < 0 then (some (f0, g0)) else (cond (zi_ix f0 220) (rec (zi_w (x2 + (-1))) (zi_w (f0 + 1)) (zv_up g0 f0 (zi_by (zi_by (zi_shr x1 (zi_w (8 * x2))))))) none)
def zf_M_types_l0 (x1 : Int) : Nat → Int → Int → (Int → Int) → Option (Int × (Int → Int))
  | 0, _, _, _ => none
  | n + 1, x2, f0, g0 => zf_M_types_l0_b x1 (zf_M_types_l0 x1 n) x2 f0 g0
def zf_M_types (x1 : Int) (f0 : Int) (g0 : (Int → Int)) : Option (Int × (Int → Int)) := (zf_M_types_l0 x1 zi_fu 3 f0 g0).bind fun q3 => (some (q3.1, q3.2))
theorem zd214_0 : decode zxm214.2.1 0 = .ok (.iconst 3, 1) := by decide +kernel
theorem zd214_1 : decode zxm214.2.1 1 = .ok (.istore_n 2, 1) := by decide +kernel
theorem zd214_2 : decode zxm214.2.1 2 = .ok (.iload_n 2, 1) := by decide +kernel
theorem zd214_3 : decode zxm214.2.1 3 = .ok (.ifCond .lt 35, 3) := by decide +kernel
theorem zd214_6 : decode zxm214.2.1 6 = .ok (.aload_n 0, 1) := by decide +kernel
theorem zd214_7 : decode zxm214.2.1 7 = .ok (.getfield 19, 3) := by decide +kernel
theorem zd214_10 : decode zxm214.2.1 10 = .ok (.aload_n 0, 1) := by decide +kernel
theorem zd214_11 : decode zxm214.2.1 11 = .ok (.getfield 168, 3) := by decide +kernel
theorem zd214_14 : decode zxm214.2.1 14 = .ok (.iload_n 1, 1) := by decide +kernel
theorem zd214_15 : decode zxm214.2.1 15 = .ok (.bipush 8, 2) := by decide +kernel
theorem zd214_17 : decode zxm214.2.1 17 = .ok (.iload_n 2, 1) := by decide +kernel
theorem zd214_18 : decode zxm214.2.1 18 = .ok (.imul, 1) := by decide +kernel
theorem zd214_19 : decode zxm214.2.1 19 = .ok (.ishr, 1) := by decide +kernel
theorem zd214_20 : decode zxm214.2.1 20 = .ok (.i2b, 1) := by decide +kernel
theorem zd214_21 : decode zxm214.2.1 21 = .ok (.bastore, 1) := by decide +kernel
theorem zd214_22 : decode zxm214.2.1 22 = .ok (.aload_n 0, 1) := by decide +kernel
theorem zd214_23 : decode zxm214.2.1 23 = .ok (.aload_n 0, 1) := by decide +kernel
theorem zd214_24 : decode zxm214.2.1 24 = .ok (.getfield 168, 3) := by decide +kernel
theorem zd214_27 : decode zxm214.2.1 27 = .ok (.iconst 1, 1) := by decide +kernel
theorem zd214_28 : decode zxm214.2.1 28 = .ok (.iadd, 1) := by decide +kernel
theorem zd214_29 : decode zxm214.2.1 29 = .ok (.putfield 168, 3) := by decide +kernel
theorem zd214_32 : decode zxm214.2.1 32 = .ok (.iinc 2 (-1), 3) := by decide +kernel
theorem zd214_35 : decode zxm214.2.1 35 = .ok (.goto (-33), 3) := by decide +kernel
theorem zd214_38 : decode zxm214.2.1 38 = .ok (.return_, 1) := by decide +kernel
theorem zt_M_types {x1 : Int} {f0 : Int} {g0 : (Int → Int)} {o : Int × (Int → Int)} (h : zf_M_types x1 f0 g0 = some o) : zv_Fn z_TB z_cl z_KX zy_M_types zxm214 (0, 0) [.inr 0, .inl x1] [.inl f0] [g0] none [.inl o.1] [o.2] := zv_meth (K := (z_KF13, z_KC13, z_KL13, z_KT13, [], [], [], none)) (FT := z_FT) (MT := z_MT) (n := 2) zxp214 (z_ks13 _ (fun _ h => List.mem_cons_of_mem _ h) _ _ _ _ (fun j r h _ => by cases h)) (fun _ _ => zs_KX_p) zyw_M_types (fun va F G h => by obtain ⟨rfl, _⟩ := h; rfl) (fun va F G h => by obtain ⟨rfl, _⟩ := h; rfl) rfl fun good va F G hB hret hvret hP => by
  obtain ⟨rfl, rfl, rfl⟩ := hP
  have l0 : ∀ (n : Nat) (x1 : Int) (x2 : Int) (f0 : Int) (g0 : (Int → Int)) (q : Int × (Int → Int)), zf_M_types_l0 x1 n x2 f0 g0 = some q → (good 38 [.inr 1000, .inr 1000, .inr 1000] [] [.inl q.1] [q.2]) → good 2 [.inr 0, .inl x1, .inl x2] [] [.inl f0] [g0] := by
    intro n
    induction n with
    | zero => intro x1 x2 f0 g0 q h; exact absurd (show none = some q from h) (fun h => by cases h)
    | succ n ih =>
      intro x1 x2 f0 g0 q h hK
      replace h : zf_M_types_l0_b x1 (zf_M_types_l0 x1 n) x2 f0 g0 = some q := h
      unfold zf_M_types_l0_b at h
      refine zv_ild hB zd214_2 rfl rfl ?_
      refine zv_zlt hB zd214_3 rfl (fun hc1 => ?_) (fun hc1 => ?_)
      · rw [if_pos hc1] at h
        have hq := Option.some.inj h
        subst hq
        refine zv_wk hB (L' := [.inr 1000, .inr 1000, .inr 1000]) (F' := [.inl f0]) ⟨fun (h : zv_is (.inr 1000)) => (Nat.lt_irrefl 1000 h).elim, fun (h : zv_is (.inr 1000)) => (Nat.lt_irrefl 1000 h).elim, fun (h : zv_is (.inr 1000)) => (Nat.lt_irrefl 1000 h).elim, trivial⟩ ⟨fun _ => rfl, trivial⟩ ?_
        exact hK
      · rw [if_neg (Int.not_lt.mpr hc1)] at h
        refine zv_ald hB zd214_6 rfl rfl rfl ?_
        refine zv_getr hB zd214_7 rfl ?_
        refine zv_ald hB zd214_10 rfl rfl rfl ?_
        refine zv_getf hB zd214_11 rfl rfl (fun _ _ => ?_)
        refine zv_ild hB zd214_14 rfl rfl ?_
        refine zv_con hB zd214_15 rfl ?_
        refine zv_ild hB zd214_17 rfl rfl ?_
        refine zv_mulw hB zd214_18 ?_
        refine zv_shrw hB zd214_19 ?_
        refine zv_i2b hB zd214_20 ?_
        obtain ⟨c2, h⟩ := zi_if h
        refine zv_bast hB zd214_21 rfl rfl (zi_ix_ok c2).1 (zi_ix_ok c2).2 ?_
        refine zv_ald hB zd214_22 rfl rfl rfl ?_
        refine zv_ald hB zd214_23 rfl rfl rfl ?_
        refine zv_getf hB zd214_24 rfl rfl (fun _ _ => ?_)
        refine zv_con hB zd214_27 rfl ?_
        refine zv_addw hB zd214_28 ?_
        refine zv_putf hB zd214_29 rfl rfl (fun h => by cases h) rfl ?_
        refine zv_iincw hB zd214_32 rfl rfl ?_
        refine zv_goto hB zd214_35 rfl ?_
        exact ih _ _ _ _ q h hK
  unfold zf_M_types at h
  refine zv_con hB zd214_0 rfl ?_
  refine zv_ist hB zd214_1 rfl rfl rfl ?_
  obtain ⟨q3, hq3, h⟩ := zi_bind h
  refine l0 _ _ _ _ _ q3 hq3 ?_
  show good 38 [.inr 1000, .inr 1000, .inr 1000] [] [.inl q3.1] [q3.2]
  have hw := Option.some.inj h
  subst hw
  exact hvret _ _ _ _ zd214_38 trivial ⟨rfl, rfl, rfl⟩
/-! M_feed (IIIII)I -/
-- names: 0 StarTalesModel('arg', 0), 1 (1, 220)(0, 12, 3)
-- fields: f0 = 0.taped_; arrays: g0 = 1; out: [('ret', None), ('f', 0), ('g', 0)]
abbrev zy_M_feed : zNL := (2, [(0, 12)], [(0, 12, 4, 0)], [(0, 12, 3, 1)], [(1, 1, 220, 0)])
theorem zyw_M_feed : zv_wf zy_M_feed = true := by decide +kernel
theorem zye_M_feed : zv_ek2 zy_M_feed = true := by decide +kernel
def zf_M_feed (x1 : Int) (x2 : Int) (x3 : Int) (x4 : Int) (x5 : Int) (f0 : Int) (g0 : (Int → Int)) : Option (Int × Int × (Int → Int)) := if 220 < (zi_w (f0 + 20)) then (some ((-1), f0, g0)) else ((zf_M_types x1 f0 g0).bind fun r2 => ((zf_M_types x2 r2.1 r2.2).bind fun r3 => ((zf_M_types x3 r3.1 r3.2).bind fun r4 => ((zf_M_types x4 r4.1 r4.2).bind fun r5 => ((zf_M_types x5 r5.1 r5.2).bind fun r6 => (some (r6.1, r6.1, r6.2)))))))
theorem zd213_0 : decode zxm213.2.1 0 = .ok (.aload_n 0, 1) := by decide +kernel
theorem zd213_1 : decode zxm213.2.1 1 = .ok (.getfield 168, 3) := by decide +kernel
theorem zd213_4 : decode zxm213.2.1 4 = .ok (.bipush 20, 2) := by decide +kernel
theorem zd213_6 : decode zxm213.2.1 6 = .ok (.iadd, 1) := by decide +kernel
theorem zd213_7 : decode zxm213.2.1 7 = .ok (.sipush 220, 3) := by decide +kernel
theorem zd213_10 : decode zxm213.2.1 10 = .ok (.if_icmp .le 5, 3) := by decide +kernel
theorem zd213_13 : decode zxm213.2.1 13 = .ok (.iconst (-1), 1) := by decide +kernel
theorem zd213_14 : decode zxm213.2.1 14 = .ok (.ireturn, 1) := by decide +kernel
theorem zd213_15 : decode zxm213.2.1 15 = .ok (.aload_n 0, 1) := by decide +kernel
theorem zd213_16 : decode zxm213.2.1 16 = .ok (.iload_n 1, 1) := by decide +kernel
theorem zd213_17 : decode zxm213.2.1 17 = .ok (.invokevirtual 172, 3) := by decide +kernel
theorem zd213_20 : decode zxm213.2.1 20 = .ok (.aload_n 0, 1) := by decide +kernel
theorem zd213_21 : decode zxm213.2.1 21 = .ok (.iload_n 2, 1) := by decide +kernel
theorem zd213_22 : decode zxm213.2.1 22 = .ok (.invokevirtual 172, 3) := by decide +kernel
theorem zd213_25 : decode zxm213.2.1 25 = .ok (.aload_n 0, 1) := by decide +kernel
theorem zd213_26 : decode zxm213.2.1 26 = .ok (.iload_n 3, 1) := by decide +kernel
theorem zd213_27 : decode zxm213.2.1 27 = .ok (.invokevirtual 172, 3) := by decide +kernel
theorem zd213_30 : decode zxm213.2.1 30 = .ok (.aload_n 0, 1) := by decide +kernel
theorem zd213_31 : decode zxm213.2.1 31 = .ok (.iload 4, 2) := by decide +kernel
theorem zd213_33 : decode zxm213.2.1 33 = .ok (.invokevirtual 172, 3) := by decide +kernel
theorem zd213_36 : decode zxm213.2.1 36 = .ok (.aload_n 0, 1) := by decide +kernel
theorem zd213_37 : decode zxm213.2.1 37 = .ok (.iload 5, 2) := by decide +kernel
theorem zd213_39 : decode zxm213.2.1 39 = .ok (.invokevirtual 172, 3) := by decide +kernel
theorem zd213_42 : decode zxm213.2.1 42 = .ok (.aload_n 0, 1) := by decide +kernel
theorem zd213_43 : decode zxm213.2.1 43 = .ok (.getfield 168, 3) := by decide +kernel
theorem zd213_46 : decode zxm213.2.1 46 = .ok (.ireturn, 1) := by decide +kernel
theorem zt_M_feed {x1 : Int} {x2 : Int} {x3 : Int} {x4 : Int} {x5 : Int} {f0 : Int} {g0 : (Int → Int)} {o : Int × Int × (Int → Int)} (h : zf_M_feed x1 x2 x3 x4 x5 f0 g0 = some o) : zv_Fn z_TB z_cl z_KX zy_M_feed zxm213 (1, 60) [.inr 0, .inl x1, .inl x2, .inl x3, .inl x4, .inl x5] [.inl f0] [g0] (some o.1) [.inl o.2.1] [o.2.2] := zv_meth (K := (z_KF13, z_KC13, z_KL13, z_KT13, [], [], [], none)) (FT := z_FT) (MT := z_MT) (n := 6) zxp213 (z_ks13 _ (fun _ h => List.mem_cons_of_mem _ h) _ _ _ _ (fun j r h _ => by cases h)) (fun _ _ => zs_KX_p) zyw_M_feed (fun va F G h => by obtain ⟨rfl, _⟩ := h; rfl) (fun va F G h => by obtain ⟨rfl, _⟩ := h; rfl) rfl fun good va F G hB hret hvret hP => by
  obtain ⟨rfl, rfl, rfl⟩ := hP
  unfold zf_M_feed at h
  refine zv_ald hB zd213_0 rfl rfl rfl ?_
  refine zv_getf hB zd213_1 rfl rfl (fun _ _ => ?_)
  refine zv_con hB zd213_4 rfl ?_
  refine zv_addw hB zd213_6 ?_
  refine zv_con hB zd213_7 rfl ?_
  refine zv_cle hB zd213_10 rfl (fun hc1 => ?_) (fun hc1 => ?_)
  · rw [if_neg (Int.not_lt.mpr hc1)] at h
    refine zv_ald hB zd213_15 rfl rfl rfl ?_
    refine zv_ild hB zd213_16 rfl rfl ?_
    obtain ⟨r2, hr2, h⟩ := zi_bind h
    refine zv_cv hB (zv_emq (va2 := [.inr 0, .inl x1]) (F := [.inl f0]) (F' := [.inl r2.1]) (G := [g0]) (G' := [r2.2]) (ρ := [0, 1]) (φ := [0]) (ψ := [0]) [some 0] [some 0] zyw_M_types zyw_M_feed zye_M_feed (by decide +kernel) (zt_M_types hr2) ⟨⟨_, rfl, fun _ => rfl⟩, trivial⟩ ⟨rfl, trivial⟩ rfl rfl rfl rfl rfl rfl rfl) zd213_17 zxt214 rfl (by decide) (by decide) rfl ?_
    refine zv_ald hB zd213_20 rfl rfl rfl ?_
    refine zv_ild hB zd213_21 rfl rfl ?_
    obtain ⟨r3, hr3, h⟩ := zi_bind h
    refine zv_cv hB (zv_emq (va2 := [.inr 0, .inl x2]) (F := [.inl r2.1]) (F' := [.inl r3.1]) (G := [r2.2]) (G' := [r3.2]) (ρ := [0, 1]) (φ := [0]) (ψ := [0]) [some 0] [some 0] zyw_M_types zyw_M_feed zye_M_feed (by decide +kernel) (zt_M_types hr3) ⟨⟨_, rfl, fun _ => rfl⟩, trivial⟩ ⟨rfl, trivial⟩ rfl rfl rfl rfl rfl rfl rfl) zd213_22 zxt214 rfl (by decide) (by decide) rfl ?_
    refine zv_ald hB zd213_25 rfl rfl rfl ?_
    refine zv_ild hB zd213_26 rfl rfl ?_
    obtain ⟨r4, hr4, h⟩ := zi_bind h
    refine zv_cv hB (zv_emq (va2 := [.inr 0, .inl x3]) (F := [.inl r3.1]) (F' := [.inl r4.1]) (G := [r3.2]) (G' := [r4.2]) (ρ := [0, 1]) (φ := [0]) (ψ := [0]) [some 0] [some 0] zyw_M_types zyw_M_feed zye_M_feed (by decide +kernel) (zt_M_types hr4) ⟨⟨_, rfl, fun _ => rfl⟩, trivial⟩ ⟨rfl, trivial⟩ rfl rfl rfl rfl rfl rfl rfl) zd213_27 zxt214 rfl (by decide) (by decide) rfl ?_
    refine zv_ald hB zd213_30 rfl rfl rfl ?_
    refine zv_ild hB zd213_31 rfl rfl ?_
    obtain ⟨r5, hr5, h⟩ := zi_bind h
    refine zv_cv hB (zv_emq (va2 := [.inr 0, .inl x4]) (F := [.inl r4.1]) (F' := [.inl r5.1]) (G := [r4.2]) (G' := [r5.2]) (ρ := [0, 1]) (φ := [0]) (ψ := [0]) [some 0] [some 0] zyw_M_types zyw_M_feed zye_M_feed (by decide +kernel) (zt_M_types hr5) ⟨⟨_, rfl, fun _ => rfl⟩, trivial⟩ ⟨rfl, trivial⟩ rfl rfl rfl rfl rfl rfl rfl) zd213_33 zxt214 rfl (by decide) (by decide) rfl ?_
    refine zv_ald hB zd213_36 rfl rfl rfl ?_
    refine zv_ild hB zd213_37 rfl rfl ?_
    obtain ⟨r6, hr6, h⟩ := zi_bind h
    refine zv_cv hB (zv_emq (va2 := [.inr 0, .inl x5]) (F := [.inl r5.1]) (F' := [.inl r6.1]) (G := [r5.2]) (G' := [r6.2]) (ρ := [0, 1]) (φ := [0]) (ψ := [0]) [some 0] [some 0] zyw_M_types zyw_M_feed zye_M_feed (by decide +kernel) (zt_M_types hr6) ⟨⟨_, rfl, fun _ => rfl⟩, trivial⟩ ⟨rfl, trivial⟩ rfl rfl rfl rfl rfl rfl rfl) zd213_39 zxt214 rfl (by decide) (by decide) rfl ?_
    refine zv_ald hB zd213_42 rfl rfl rfl ?_
    refine zv_getf hB zd213_43 rfl rfl (fun _ _ => ?_)
    have hw := Option.some.inj h
    subst hw
    exact hret _ _ _ _ _ zd213_46 (by trivial) ⟨rfl, rfl, rfl⟩
  · rw [if_pos hc1] at h
    refine zv_con hB zd213_13 rfl ?_
    have hw := Option.some.inj h
    subst hw
    exact hret _ _ _ _ _ zd213_14 (by trivial) ⟨rfl, rfl, rfl⟩
/-! M_here ()I -/
-- names: 0 StarTalesModel('arg', 0), 1 (1, 220)(0, 12, 3)
-- fields: f0 = 0.place0_, f1 = 0.length0_; arrays: g0 = 1; out: [('ret', None)]
abbrev zy_M_here : zNL := (2, [(0, 12)], [(0, 12, 5, 0), (0, 12, 6, 1)], [(0, 12, 3, 1)], [(1, 1, 220, 0)])
theorem zyw_M_here : zv_wf zy_M_here = true := by decide +kernel
theorem zye_M_here : zv_ek2 zy_M_here = true := by decide +kernel
def zf_M_here (f0 : Int) (f1 : Int) (g0 : (Int → Int)) : Option (Int) := if f0 < f1 then (cond (zi_ix f0 220) (some (zi_and (g0 f0) 255)) none) else (some (-1))
theorem zd217_0 : decode zxm217.2.1 0 = .ok (.aload_n 0, 1) := by decide +kernel
theorem zd217_1 : decode zxm217.2.1 1 = .ok (.getfield 176, 3) := by decide +kernel
theorem zd217_4 : decode zxm217.2.1 4 = .ok (.aload_n 0, 1) := by decide +kernel
theorem zd217_5 : decode zxm217.2.1 5 = .ok (.getfield 179, 3) := by decide +kernel
theorem zd217_8 : decode zxm217.2.1 8 = .ok (.if_icmp .ge 19, 3) := by decide +kernel
theorem zd217_11 : decode zxm217.2.1 11 = .ok (.aload_n 0, 1) := by decide +kernel
theorem zd217_12 : decode zxm217.2.1 12 = .ok (.getfield 19, 3) := by decide +kernel
theorem zd217_15 : decode zxm217.2.1 15 = .ok (.aload_n 0, 1) := by decide +kernel
theorem zd217_16 : decode zxm217.2.1 16 = .ok (.getfield 176, 3) := by decide +kernel
theorem zd217_19 : decode zxm217.2.1 19 = .ok (.baload, 1) := by decide +kernel
theorem zd217_20 : decode zxm217.2.1 20 = .ok (.sipush 255, 3) := by decide +kernel
theorem zd217_23 : decode zxm217.2.1 23 = .ok (.iand, 1) := by decide +kernel
theorem zd217_24 : decode zxm217.2.1 24 = .ok (.goto 4, 3) := by decide +kernel
theorem zd217_27 : decode zxm217.2.1 27 = .ok (.iconst (-1), 1) := by decide +kernel
theorem zd217_28 : decode zxm217.2.1 28 = .ok (.ireturn, 1) := by decide +kernel
theorem zt_M_here {f0 : Int} {f1 : Int} {g0 : (Int → Int)} {o : Int} (h : zf_M_here f0 f1 g0 = some o) : zv_Fn z_TB z_cl z_KX zy_M_here zxm217 (0, 0) [.inr 0] [.inl f0, .inl f1] [g0] (some o) [.inl f0, .inl f1] [g0] := zv_meth (K := (z_KF13, z_KC13, z_KL13, z_KT13, [], [], [], none)) (FT := z_FT) (MT := z_MT) (n := 1) zxp217 (z_ks13 _ (fun _ h => List.mem_cons_of_mem _ h) _ _ _ _ (fun j r h _ => by cases h)) (fun _ _ => zs_KX_p) zyw_M_here (fun va F G h => by obtain ⟨rfl, _⟩ := h; rfl) (fun va F G h => by obtain ⟨rfl, _⟩ := h; rfl) rfl fun good va F G hB hret hvret hP => by
  obtain ⟨rfl, rfl, rfl⟩ := hP
  unfold zf_M_here at h
  refine zv_ald hB zd217_0 rfl rfl rfl ?_
  refine zv_getf hB zd217_1 rfl rfl (fun _ _ => ?_)
  refine zv_ald hB zd217_4 rfl rfl rfl ?_
  refine zv_getf hB zd217_5 rfl rfl (fun _ _ => ?_)
  refine zv_cge hB zd217_8 rfl (fun hc1 => ?_) (fun hc1 => ?_)
  · rw [if_neg (Int.not_lt.mpr hc1)] at h
    refine zv_con hB zd217_27 rfl ?_
    have hw := Option.some.inj h
    subst hw
    exact hret _ _ _ _ _ zd217_28 (by trivial) ⟨rfl, rfl, rfl⟩
  · rw [if_pos hc1] at h
    refine zv_ald hB zd217_11 rfl rfl rfl ?_
    refine zv_getr hB zd217_12 rfl ?_
    refine zv_ald hB zd217_15 rfl rfl rfl ?_
    refine zv_getf hB zd217_16 rfl rfl (fun _ _ => ?_)
    obtain ⟨c2, h⟩ := zi_if h
    refine zv_bald hB zd217_19 rfl rfl (zi_ix_ok c2).1 (zi_ix_ok c2).2 (fun _ _ => ?_)
    refine zv_con hB zd217_20 rfl ?_
    refine zv_andw hB zd217_23 ?_
    refine zv_goto hB zd217_24 rfl ?_
    have hw := Option.some.inj h
    subst hw
    exact hret _ _ _ _ _ zd217_28 (by trivial) ⟨rfl, rfl, rfl⟩
/-! M_isClause (I)Z -/
-- names: 
-- fields: ; arrays: ; out: [('ret', None)]
abbrev zy_M_isClause : zNL := (0, [], [], [], [])
theorem zyw_M_isClause : zv_wf zy_M_isClause = true := by decide +kernel
theorem zye_M_isClause : zv_ek2 zy_M_isClause = true := by decide +kernel
def zf_M_isClause (x0 : Int) : Option (Int) := if x0 = 118 then (some 1) else (if x0 = 106 then (some 1) else (if x0 = 119 then (some 1) else (if x0 = 103 then (some 1) else (if x0 = 113 then (some 1) else (some 0)))))
theorem zd218_0 : decode zxm218.2.1 0 = .ok (.iload_n 0, 1) := by decide +kernel
theorem zd218_1 : decode zxm218.2.1 1 = .ok (.bipush 118, 2) := by decide +kernel
theorem zd218_3 : decode zxm218.2.1 3 = .ok (.if_icmp .eq 27, 3) := by decide +kernel
theorem zd218_6 : decode zxm218.2.1 6 = .ok (.iload_n 0, 1) := by decide +kernel
theorem zd218_7 : decode zxm218.2.1 7 = .ok (.bipush 106, 2) := by decide +kernel
theorem zd218_9 : decode zxm218.2.1 9 = .ok (.if_icmp .eq 21, 3) := by decide +kernel
theorem zd218_12 : decode zxm218.2.1 12 = .ok (.iload_n 0, 1) := by decide +kernel
theorem zd218_13 : decode zxm218.2.1 13 = .ok (.bipush 119, 2) := by decide +kernel
theorem zd218_15 : decode zxm218.2.1 15 = .ok (.if_icmp .eq 15, 3) := by decide +kernel
theorem zd218_18 : decode zxm218.2.1 18 = .ok (.iload_n 0, 1) := by decide +kernel
theorem zd218_19 : decode zxm218.2.1 19 = .ok (.bipush 103, 2) := by decide +kernel
theorem zd218_21 : decode zxm218.2.1 21 = .ok (.if_icmp .eq 9, 3) := by decide +kernel
theorem zd218_24 : decode zxm218.2.1 24 = .ok (.iload_n 0, 1) := by decide +kernel
theorem zd218_25 : decode zxm218.2.1 25 = .ok (.bipush 113, 2) := by decide +kernel
theorem zd218_27 : decode zxm218.2.1 27 = .ok (.if_icmp .ne 7, 3) := by decide +kernel
theorem zd218_30 : decode zxm218.2.1 30 = .ok (.iconst 1, 1) := by decide +kernel
theorem zd218_31 : decode zxm218.2.1 31 = .ok (.goto 4, 3) := by decide +kernel
theorem zd218_34 : decode zxm218.2.1 34 = .ok (.iconst 0, 1) := by decide +kernel
theorem zd218_35 : decode zxm218.2.1 35 = .ok (.ireturn, 1) := by decide +kernel
theorem zt_M_isClause {x0 : Int} {o : Int} (h : zf_M_isClause x0 = some o) : zv_Fn z_TB z_cl z_KX zy_M_isClause zxm218 (0, 0) [.inl x0] [] [] (some o) [] [] := zv_meth (K := (z_KF13, z_KC13, z_KL13, z_KT13, [], [], [], none)) (FT := z_FT) (MT := z_MT) (n := 1) zxp218 (z_ks13 _ (fun _ h => List.mem_cons_of_mem _ h) _ _ _ _ (fun j r h _ => by cases h)) (fun _ _ => zs_KX_p) zyw_M_isClause (fun va F G h => by obtain ⟨rfl, _⟩ := h; rfl) (fun va F G h => by obtain ⟨rfl, _⟩ := h; rfl) rfl fun good va F G hB hret hvret hP => by
  obtain ⟨rfl, rfl, rfl⟩ := hP
  unfold zf_M_isClause at h
  refine zv_ild hB zd218_0 rfl rfl ?_
  refine zv_con hB zd218_1 rfl ?_
  refine zv_ceq hB zd218_3 rfl (fun hc1 => ?_) (fun hc1 => ?_)
  · rw [if_pos hc1] at h
    refine zv_con hB zd218_30 rfl ?_
    refine zv_goto hB zd218_31 rfl ?_
    have hw := Option.some.inj h
    subst hw
    exact hret _ _ _ _ _ zd218_35 (by constructor <;> decide) ⟨rfl, rfl, rfl⟩
  · rw [if_neg hc1] at h
    refine zv_ild hB zd218_6 rfl rfl ?_
    refine zv_con hB zd218_7 rfl ?_
    refine zv_ceq hB zd218_9 rfl (fun hc2 => ?_) (fun hc2 => ?_)
    · rw [if_pos hc2] at h
      refine zv_con hB zd218_30 rfl ?_
      refine zv_goto hB zd218_31 rfl ?_
      have hw := Option.some.inj h
      subst hw
      exact hret _ _ _ _ _ zd218_35 (by constructor <;> decide) ⟨rfl, rfl, rfl⟩
    · rw [if_neg hc2] at h
      refine zv_ild hB zd218_12 rfl rfl ?_
      refine zv_con hB zd218_13 rfl ?_
      refine zv_ceq hB zd218_15 rfl (fun hc3 => ?_) (fun hc3 => ?_)
      · rw [if_pos hc3] at h
        refine zv_con hB zd218_30 rfl ?_
        refine zv_goto hB zd218_31 rfl ?_
        have hw := Option.some.inj h
        subst hw
        exact hret _ _ _ _ _ zd218_35 (by constructor <;> decide) ⟨rfl, rfl, rfl⟩
      · rw [if_neg hc3] at h
        refine zv_ild hB zd218_18 rfl rfl ?_
        refine zv_con hB zd218_19 rfl ?_
        refine zv_ceq hB zd218_21 rfl (fun hc4 => ?_) (fun hc4 => ?_)
        · rw [if_pos hc4] at h
          refine zv_con hB zd218_30 rfl ?_
          refine zv_goto hB zd218_31 rfl ?_
          have hw := Option.some.inj h
          subst hw
          exact hret _ _ _ _ _ zd218_35 (by constructor <;> decide) ⟨rfl, rfl, rfl⟩
        · rw [if_neg hc4] at h
          refine zv_ild hB zd218_24 rfl rfl ?_
          refine zv_con hB zd218_25 rfl ?_
          refine zv_cne hB zd218_27 rfl (fun hc5 => ?_) (fun hc5 => ?_)
          · rw [if_neg hc5] at h
            refine zv_con hB zd218_34 rfl ?_
            have hw := Option.some.inj h
            subst hw
            exact hret _ _ _ _ _ zd218_35 (by constructor <;> decide) ⟨rfl, rfl, rfl⟩
          · rw [if_pos hc5] at h
            refine zv_con hB zd218_30 rfl ?_
            refine zv_goto hB zd218_31 rfl ?_
            have hw := Option.some.inj h
            subst hw
            exact hret _ _ _ _ _ zd218_35 (by constructor <;> decide) ⟨rfl, rfl, rfl⟩
/-! M_wrongAt (II)Z -/
-- names: 0 StarTalesModel('arg', 0)
-- fields: f0 = 0.fault_; arrays: ; out: [('ret', None), ('f', 0)]
abbrev zy_M_wrongAt : zNL := (1, [(0, 12)], [(0, 12, 7, 0)], [], [])
theorem zyw_M_wrongAt : zv_wf zy_M_wrongAt = true := by decide +kernel
theorem zye_M_wrongAt : zv_ek2 zy_M_wrongAt = true := by decide +kernel
def zf_M_wrongAt (x1 : Int) (x2 : Int) (f0 : Int) : Option (Int × Int) := some (0, (zi_w ((zi_w ((-1000) * x1)) - x2)))
theorem zd219_0 : decode zxm219.2.1 0 = .ok (.aload_n 0, 1) := by decide +kernel
theorem zd219_1 : decode zxm219.2.1 1 = .ok (.sipush (-1000), 3) := by decide +kernel
theorem zd219_4 : decode zxm219.2.1 4 = .ok (.iload_n 1, 1) := by decide +kernel
theorem zd219_5 : decode zxm219.2.1 5 = .ok (.imul, 1) := by decide +kernel
theorem zd219_6 : decode zxm219.2.1 6 = .ok (.iload_n 2, 1) := by decide +kernel
theorem zd219_7 : decode zxm219.2.1 7 = .ok (.isub, 1) := by decide +kernel
theorem zd219_8 : decode zxm219.2.1 8 = .ok (.putfield 186, 3) := by decide +kernel
theorem zd219_11 : decode zxm219.2.1 11 = .ok (.iconst 0, 1) := by decide +kernel
theorem zd219_12 : decode zxm219.2.1 12 = .ok (.ireturn, 1) := by decide +kernel
theorem zt_M_wrongAt {x1 : Int} {x2 : Int} {f0 : Int} {o : Int × Int} (h : zf_M_wrongAt x1 x2 f0 = some o) : zv_Fn z_TB z_cl z_KX zy_M_wrongAt zxm219 (0, 0) [.inr 0, .inl x1, .inl x2] [.inl f0] [] (some o.1) [.inl o.2] [] := zv_meth (K := (z_KF13, z_KC13, z_KL13, z_KT13, [], [], [], none)) (FT := z_FT) (MT := z_MT) (n := 3) zxp219 (z_ks13 _ (fun _ h => List.mem_cons_of_mem _ h) _ _ _ _ (fun j r h _ => by cases h)) (fun _ _ => zs_KX_p) zyw_M_wrongAt (fun va F G h => by obtain ⟨rfl, _⟩ := h; rfl) (fun va F G h => by obtain ⟨rfl, _⟩ := h; rfl) rfl fun good va F G hB hret hvret hP => by
  obtain ⟨rfl, rfl, rfl⟩ := hP
  unfold zf_M_wrongAt at h
  refine zv_ald hB zd219_0 rfl rfl rfl ?_
  refine zv_con hB zd219_1 rfl ?_
  refine zv_ild hB zd219_4 rfl rfl ?_
  refine zv_mulw hB zd219_5 ?_
  refine zv_ild hB zd219_6 rfl rfl ?_
  refine zv_subw hB zd219_7 ?_
  refine zv_putf hB zd219_8 rfl rfl (fun h => by cases h) rfl ?_
  refine zv_con hB zd219_11 rfl ?_
  have hw := Option.some.inj h
  subst hw
  exact hret _ _ _ _ _ zd219_12 (by constructor <;> decide) ⟨rfl, rfl, rfl⟩
/-! M_opens (I)Z -/
-- names: 0 StarTalesModel('arg', 0), 1 (0, 220)(0, 12, 15)
-- fields: f0 = 0.open_, f1 = 0.waiting_, f2 = 0.place0_, f3 = 0.fault_; arrays: g0 = 1; out: [('ret', None), ('f', 0), ('f', 1), ('f', 2), ('f', 3), ('g', 0)]
abbrev zy_M_opens : zNL := (2, [(0, 12)], [(0, 12, 8, 0), (0, 12, 10, 1), (0, 12, 5, 2), (0, 12, 7, 3)], [(0, 12, 15, 1)], [(1, 0, 220, 0)])
theorem zyw_M_opens : zv_wf zy_M_opens = true := by decide +kernel
theorem zye_M_opens : zv_ek2 zy_M_opens = true := by decide +kernel
def zf_M_opens (x1 : Int) (f0 : Int) (f1 : Int) (f2 : Int) (f3 : Int) (g0 : (Int → Int)) : Option (Int × Int × Int × Int × Int × (Int → Int)) := if f0 = 6 then ((zf_M_wrongAt 5 f2 f3).bind fun r3 => (cond (zi_bo r3.1) (some (r3.1, f0, f1, f2, r3.2, g0)) none)) else (cond (zi_ix f1 220) (some (1, (zi_w (f0 + 1)), (zi_w (f1 + 1)), (zi_w (f2 + 1)), f3, (zv_up g0 f1 (zi_w (1048576 * x1))))) none)
theorem zd222_0 : decode zxm222.2.1 0 = .ok (.aload_n 0, 1) := by decide +kernel
theorem zd222_1 : decode zxm222.2.1 1 = .ok (.getfield 203, 3) := by decide +kernel
theorem zd222_4 : decode zxm222.2.1 4 = .ok (.bipush 6, 2) := by decide +kernel
theorem zd222_6 : decode zxm222.2.1 6 = .ok (.if_icmp .ne 13, 3) := by decide +kernel
theorem zd222_9 : decode zxm222.2.1 9 = .ok (.aload_n 0, 1) := by decide +kernel
theorem zd222_10 : decode zxm222.2.1 10 = .ok (.iconst 5, 1) := by decide +kernel
theorem zd222_11 : decode zxm222.2.1 11 = .ok (.aload_n 0, 1) := by decide +kernel
theorem zd222_12 : decode zxm222.2.1 12 = .ok (.getfield 176, 3) := by decide +kernel
theorem zd222_15 : decode zxm222.2.1 15 = .ok (.invokevirtual 189, 3) := by decide +kernel
theorem zd222_18 : decode zxm222.2.1 18 = .ok (.ireturn, 1) := by decide +kernel
theorem zd222_19 : decode zxm222.2.1 19 = .ok (.aload_n 0, 1) := by decide +kernel
theorem zd222_20 : decode zxm222.2.1 20 = .ok (.aload_n 0, 1) := by decide +kernel
theorem zd222_21 : decode zxm222.2.1 21 = .ok (.getfield 203, 3) := by decide +kernel
theorem zd222_24 : decode zxm222.2.1 24 = .ok (.iconst 1, 1) := by decide +kernel
theorem zd222_25 : decode zxm222.2.1 25 = .ok (.iadd, 1) := by decide +kernel
theorem zd222_26 : decode zxm222.2.1 26 = .ok (.putfield 203, 3) := by decide +kernel
theorem zd222_29 : decode zxm222.2.1 29 = .ok (.aload_n 0, 1) := by decide +kernel
theorem zd222_30 : decode zxm222.2.1 30 = .ok (.getfield 26, 3) := by decide +kernel
theorem zd222_33 : decode zxm222.2.1 33 = .ok (.aload_n 0, 1) := by decide +kernel
theorem zd222_34 : decode zxm222.2.1 34 = .ok (.getfield 206, 3) := by decide +kernel
theorem zd222_37 : decode zxm222.2.1 37 = .ok (.ldc 202, 2) := by decide +kernel
theorem zd222_39 : decode zxm222.2.1 39 = .ok (.iload_n 1, 1) := by decide +kernel
theorem zd222_40 : decode zxm222.2.1 40 = .ok (.imul, 1) := by decide +kernel
theorem zd222_41 : decode zxm222.2.1 41 = .ok (.iastore, 1) := by decide +kernel
theorem zd222_42 : decode zxm222.2.1 42 = .ok (.aload_n 0, 1) := by decide +kernel
theorem zd222_43 : decode zxm222.2.1 43 = .ok (.aload_n 0, 1) := by decide +kernel
theorem zd222_44 : decode zxm222.2.1 44 = .ok (.getfield 206, 3) := by decide +kernel
theorem zd222_47 : decode zxm222.2.1 47 = .ok (.iconst 1, 1) := by decide +kernel
theorem zd222_48 : decode zxm222.2.1 48 = .ok (.iadd, 1) := by decide +kernel
theorem zd222_49 : decode zxm222.2.1 49 = .ok (.putfield 206, 3) := by decide +kernel
theorem zd222_52 : decode zxm222.2.1 52 = .ok (.aload_n 0, 1) := by decide +kernel
theorem zd222_53 : decode zxm222.2.1 53 = .ok (.aload_n 0, 1) := by decide +kernel
theorem zd222_54 : decode zxm222.2.1 54 = .ok (.getfield 176, 3) := by decide +kernel
theorem zd222_57 : decode zxm222.2.1 57 = .ok (.iconst 1, 1) := by decide +kernel
theorem zd222_58 : decode zxm222.2.1 58 = .ok (.iadd, 1) := by decide +kernel
theorem zd222_59 : decode zxm222.2.1 59 = .ok (.putfield 176, 3) := by decide +kernel
theorem zd222_62 : decode zxm222.2.1 62 = .ok (.iconst 1, 1) := by decide +kernel
theorem zd222_63 : decode zxm222.2.1 63 = .ok (.ireturn, 1) := by decide +kernel
theorem zt_M_opens {x1 : Int} {f0 : Int} {f1 : Int} {f2 : Int} {f3 : Int} {g0 : (Int → Int)} {o : Int × Int × Int × Int × Int × (Int → Int)} (h : zf_M_opens x1 f0 f1 f2 f3 g0 = some o) : zv_Fn z_TB z_cl z_KX zy_M_opens zxm222 (1, 60) [.inr 0, .inl x1] [.inl f0, .inl f1, .inl f2, .inl f3] [g0] (some o.1) [.inl o.2.1, .inl o.2.2.1, .inl o.2.2.2.1, .inl o.2.2.2.2.1] [o.2.2.2.2.2] := zv_meth (K := (z_KF13, z_KC13, z_KL13, z_KT13, [], [], [], none)) (FT := z_FT) (MT := z_MT) (n := 2) zxp222 (z_ks13 _ (fun _ h => List.mem_cons_of_mem _ h) _ _ _ _ (fun j r h _ => by cases h)) (fun _ _ => zs_KX_p) zyw_M_opens (fun va F G h => by obtain ⟨rfl, _⟩ := h; rfl) (fun va F G h => by obtain ⟨rfl, _⟩ := h; rfl) rfl fun good va F G hB hret hvret hP => by
  obtain ⟨rfl, rfl, rfl⟩ := hP
  unfold zf_M_opens at h
  refine zv_ald hB zd222_0 rfl rfl rfl ?_
  refine zv_getf hB zd222_1 rfl rfl (fun _ _ => ?_)
  refine zv_con hB zd222_4 rfl ?_
  refine zv_cne hB zd222_6 rfl (fun hc1 => ?_) (fun hc1 => ?_)
  · rw [if_neg hc1] at h
    refine zv_ald hB zd222_19 rfl rfl rfl ?_
    refine zv_ald hB zd222_20 rfl rfl rfl ?_
    refine zv_getf hB zd222_21 rfl rfl (fun _ _ => ?_)
    refine zv_con hB zd222_24 rfl ?_
    refine zv_addw hB zd222_25 ?_
    refine zv_putf hB zd222_26 rfl rfl (fun h => by cases h) rfl ?_
    refine zv_ald hB zd222_29 rfl rfl rfl ?_
    refine zv_getr hB zd222_30 rfl ?_
    refine zv_ald hB zd222_33 rfl rfl rfl ?_
    refine zv_getf hB zd222_34 rfl rfl (fun _ _ => ?_)
    refine zv_con (n := 1048576) hB zd222_37 (by decide +kernel) ?_
    refine zv_ild hB zd222_39 rfl rfl ?_
    refine zv_mulw hB zd222_40 ?_
    obtain ⟨c2, h⟩ := zi_if h
    refine zv_iast hB zd222_41 rfl rfl (zi_ix_ok c2).1 (zi_ix_ok c2).2 ?_
    refine zv_ald hB zd222_42 rfl rfl rfl ?_
    refine zv_ald hB zd222_43 rfl rfl rfl ?_
    refine zv_getf hB zd222_44 rfl rfl (fun _ _ => ?_)
    refine zv_con hB zd222_47 rfl ?_
    refine zv_addw hB zd222_48 ?_
    refine zv_putf hB zd222_49 rfl rfl (fun h => by cases h) rfl ?_
    refine zv_ald hB zd222_52 rfl rfl rfl ?_
    refine zv_ald hB zd222_53 rfl rfl rfl ?_
    refine zv_getf hB zd222_54 rfl rfl (fun _ _ => ?_)
    refine zv_con hB zd222_57 rfl ?_
    refine zv_addw hB zd222_58 ?_
    refine zv_putf hB zd222_59 rfl rfl (fun h => by cases h) rfl ?_
    refine zv_con hB zd222_62 rfl ?_
    have hw := Option.some.inj h
    subst hw
    exact hret _ _ _ _ _ zd222_63 (by constructor <;> decide) ⟨rfl, rfl, rfl⟩
  · rw [if_pos hc1] at h
    refine zv_ald hB zd222_9 rfl rfl rfl ?_
    refine zv_con hB zd222_10 rfl ?_
    refine zv_ald hB zd222_11 rfl rfl rfl ?_
    refine zv_getf hB zd222_12 rfl rfl (fun _ _ => ?_)
    obtain ⟨r3, hr3, h⟩ := zi_bind h
    refine zv_cv hB (zv_emq (va2 := [.inr 0, .inl 5, .inl f2]) (F := [.inl f0, .inl f1, .inl f2, .inl f3]) (F' := [.inl f0, .inl f1, .inl f2, .inl r3.2]) (G := [g0]) (G' := [g0]) (ρ := [0]) (φ := [3]) (ψ := []) [none, none, none, some 0] [none] zyw_M_wrongAt zyw_M_opens zye_M_opens (by decide +kernel) (zt_M_wrongAt hr3) ⟨⟨_, rfl, fun _ => rfl⟩, trivial⟩ trivial rfl rfl rfl rfl rfl rfl rfl) zd222_15 zxt219 rfl (by decide) (by decide) rfl ?_
    obtain ⟨c4, h⟩ := zi_if h
    have hw := Option.some.inj h
    subst hw
    exact hret _ _ _ _ _ zd222_18 (zi_bo_ok c4) ⟨rfl, rfl, rfl⟩
/-! M_isDigit ()Z -/
-- names: 0 StarTalesModel('arg', 0), 1 (1, 220)(0, 12, 3)
-- fields: f0 = 0.place0_, f1 = 0.length0_; arrays: g0 = 1; out: [('ret', None)]
abbrev zy_M_isDigit : zNL := (2, [(0, 12)], [(0, 12, 5, 0), (0, 12, 6, 1)], [(0, 12, 3, 1)], [(1, 1, 220, 0)])
theorem zyw_M_isDigit : zv_wf zy_M_isDigit = true := by decide +kernel
theorem zye_M_isDigit : zv_ek2 zy_M_isDigit = true := by decide +kernel
def zf_M_isDigit (f0 : Int) (f1 : Int) (g0 : (Int → Int)) : Option (Int) := (zf_M_here f0 f1 g0).bind fun r1 => (if r1 < 48 then (some 0) else ((zf_M_here f0 f1 g0).bind fun r3 => (if 57 < r3 then (some 0) else (some 1))))
theorem zd223_0 : decode zxm223.2.1 0 = .ok (.aload_n 0, 1) := by decide +kernel
theorem zd223_1 : decode zxm223.2.1 1 = .ok (.invokevirtual 182, 3) := by decide +kernel
theorem zd223_4 : decode zxm223.2.1 4 = .ok (.bipush 48, 2) := by decide +kernel
theorem zd223_6 : decode zxm223.2.1 6 = .ok (.if_icmp .lt 16, 3) := by decide +kernel
theorem zd223_9 : decode zxm223.2.1 9 = .ok (.aload_n 0, 1) := by decide +kernel
theorem zd223_10 : decode zxm223.2.1 10 = .ok (.invokevirtual 182, 3) := by decide +kernel
theorem zd223_13 : decode zxm223.2.1 13 = .ok (.bipush 57, 2) := by decide +kernel
theorem zd223_15 : decode zxm223.2.1 15 = .ok (.if_icmp .gt 7, 3) := by decide +kernel
theorem zd223_18 : decode zxm223.2.1 18 = .ok (.iconst 1, 1) := by decide +kernel
theorem zd223_19 : decode zxm223.2.1 19 = .ok (.goto 4, 3) := by decide +kernel
theorem zd223_22 : decode zxm223.2.1 22 = .ok (.iconst 0, 1) := by decide +kernel
theorem zd223_23 : decode zxm223.2.1 23 = .ok (.ireturn, 1) := by decide +kernel
theorem zt_M_isDigit {f0 : Int} {f1 : Int} {g0 : (Int → Int)} {o : Int} (h : zf_M_isDigit f0 f1 g0 = some o) : zv_Fn z_TB z_cl z_KX zy_M_isDigit zxm223 (1, 60) [.inr 0] [.inl f0, .inl f1] [g0] (some o) [.inl f0, .inl f1] [g0] := zv_meth (K := (z_KF13, z_KC13, z_KL13, z_KT13, [], [], [], none)) (FT := z_FT) (MT := z_MT) (n := 1) zxp223 (z_ks13 _ (fun _ h => List.mem_cons_of_mem _ h) _ _ _ _ (fun j r h _ => by cases h)) (fun _ _ => zs_KX_p) zyw_M_isDigit (fun va F G h => by obtain ⟨rfl, _⟩ := h; rfl) (fun va F G h => by obtain ⟨rfl, _⟩ := h; rfl) rfl fun good va F G hB hret hvret hP => by
  obtain ⟨rfl, rfl, rfl⟩ := hP
  unfold zf_M_isDigit at h
  refine zv_ald hB zd223_0 rfl rfl rfl ?_
  obtain ⟨r1, hr1, h⟩ := zi_bind h
  refine zv_cv hB (zv_emq (va2 := [.inr 0]) (F := [.inl f0, .inl f1]) (F' := [.inl f0, .inl f1]) (G := [g0]) (G' := [g0]) (ρ := [0, 1]) (φ := [0, 1]) (ψ := [0]) [some 0, some 1] [some 0] zyw_M_here zyw_M_isDigit zye_M_isDigit (by decide +kernel) (zt_M_here hr1) ⟨⟨_, rfl, fun _ => rfl⟩, ⟨_, rfl, fun _ => rfl⟩, trivial⟩ ⟨rfl, trivial⟩ rfl rfl rfl rfl rfl rfl rfl) zd223_1 zxt217 rfl (by decide) (by decide) rfl ?_
  refine zv_con hB zd223_4 rfl ?_
  refine zv_clt hB zd223_6 rfl (fun hc2 => ?_) (fun hc2 => ?_)
  · rw [if_pos hc2] at h
    refine zv_con hB zd223_22 rfl ?_
    have hw := Option.some.inj h
    subst hw
    exact hret _ _ _ _ _ zd223_23 (by constructor <;> decide) ⟨rfl, rfl, rfl⟩
  · rw [if_neg (Int.not_lt.mpr hc2)] at h
    refine zv_ald hB zd223_9 rfl rfl rfl ?_
    obtain ⟨r3, hr3, h⟩ := zi_bind h
    refine zv_cv hB (zv_emq (va2 := [.inr 0]) (F := [.inl f0, .inl f1]) (F' := [.inl f0, .inl f1]) (G := [g0]) (G' := [g0]) (ρ := [0, 1]) (φ := [0, 1]) (ψ := [0]) [some 0, some 1] [some 0] zyw_M_here zyw_M_isDigit zye_M_isDigit (by decide +kernel) (zt_M_here hr3) ⟨⟨_, rfl, fun _ => rfl⟩, ⟨_, rfl, fun _ => rfl⟩, trivial⟩ ⟨rfl, trivial⟩ rfl rfl rfl rfl rfl rfl rfl) zd223_10 zxt217 rfl (by decide) (by decide) rfl ?_
    refine zv_con hB zd223_13 rfl ?_
    refine zv_cgt hB zd223_15 rfl (fun hc4 => ?_) (fun hc4 => ?_)
    · rw [if_pos hc4] at h
      refine zv_con hB zd223_22 rfl ?_
      have hw := Option.some.inj h
      subst hw
      exact hret _ _ _ _ _ zd223_23 (by constructor <;> decide) ⟨rfl, rfl, rfl⟩
    · rw [if_neg (Int.not_lt.mpr hc4)] at h
      refine zv_con hB zd223_18 rfl ?_
      refine zv_goto hB zd223_19 rfl ?_
      have hw := Option.some.inj h
      subst hw
      exact hret _ _ _ _ _ zd223_23 (by constructor <;> decide) ⟨rfl, rfl, rfl⟩
