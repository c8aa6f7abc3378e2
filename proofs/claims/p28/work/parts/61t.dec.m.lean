/-! 61t.dec, 61u.dec, 61v.dec, 61w.dec, 61x.dec, 61y.dec -/
section
/-! Methods as functions, and that they do what these do. -/
/-! M_isShip (I)Z -/
-- names: 0 StarTalesModel('arg', 0), 1 (0, 422)(0, 12, 0)
-- fields: ; arrays: g0 = 1; out: [('ret', None)]
abbrev zy_M_isShip : zNL := (2, [(0, 12)], [], [(0, 12, 0, 1)], [(1, 0, 422, 0)])
theorem zyw_M_isShip : zv_wf zy_M_isShip = true := by decide +kernel
theorem zye_M_isShip : zv_ek2 zy_M_isShip = true := by decide +kernel
def zf_M_isShip (x1 : Int) (g0 : (Int → Int)) : Option (Int) := if x1 < 0 then (some 0) else (if x1 < 6 then ((zf_M_has (g0 127) x1).bind fun r3 => (if r3 = 0 then (some 0) else (some 1))) else (some 0))
theorem zd210_0 : decode zxm210.2.1 0 = .ok (.iload_n 1, 1) := by decide +kernel
theorem zd210_1 : decode zxm210.2.1 1 = .ok (.ifCond .lt 27, 3) := by decide +kernel
theorem zd210_4 : decode zxm210.2.1 4 = .ok (.iload_n 1, 1) := by decide +kernel
theorem zd210_5 : decode zxm210.2.1 5 = .ok (.bipush 6, 2) := by decide +kernel
theorem zd210_7 : decode zxm210.2.1 7 = .ok (.if_icmp .ge 21, 3) := by decide +kernel
theorem zd210_10 : decode zxm210.2.1 10 = .ok (.aload_n 0, 1) := by decide +kernel
theorem zd210_11 : decode zxm210.2.1 11 = .ok (.getfield 7, 3) := by decide +kernel
theorem zd210_14 : decode zxm210.2.1 14 = .ok (.bipush 127, 2) := by decide +kernel
theorem zd210_16 : decode zxm210.2.1 16 = .ok (.iaload, 1) := by decide +kernel
theorem zd210_17 : decode zxm210.2.1 17 = .ok (.iload_n 1, 1) := by decide +kernel
theorem zd210_18 : decode zxm210.2.1 18 = .ok (.invokestatic 138, 3) := by decide +kernel
theorem zd210_21 : decode zxm210.2.1 21 = .ok (.ifCond .eq 7, 3) := by decide +kernel
theorem zd210_24 : decode zxm210.2.1 24 = .ok (.iconst 1, 1) := by decide +kernel
theorem zd210_25 : decode zxm210.2.1 25 = .ok (.goto 4, 3) := by decide +kernel
theorem zd210_28 : decode zxm210.2.1 28 = .ok (.iconst 0, 1) := by decide +kernel
theorem zd210_29 : decode zxm210.2.1 29 = .ok (.ireturn, 1) := by decide +kernel
theorem zt_M_isShip {x1 : Int} {g0 : (Int → Int)} {o : Int} (h : zf_M_isShip x1 g0 = some o) : zv_Fn z_TB z_cl z_KX zy_M_isShip zxm210 (1, 60) [.inr 0, .inl x1] [] [g0] (some o) [] [g0] := zv_meth (K := (z_KF13, z_KC13, z_KL13, z_KT13, [], [], [], none)) (FT := z_FT) (MT := z_MT) (n := 2) zxp210 (z_ks13 _ (fun _ h => List.mem_cons_of_mem _ h) _ _ _ _ (fun j r h _ => by cases h)) (fun _ _ => zs_KX_p) zyw_M_isShip (fun va F G h => by obtain ⟨rfl, _⟩ := h; rfl) (fun va F G h => by obtain ⟨rfl, _⟩ := h; rfl) rfl fun good va F G hB hret hvret hP => by
  obtain ⟨rfl, rfl, rfl⟩ := hP
  unfold zf_M_isShip at h
  refine zv_ild hB zd210_0 rfl rfl ?_
  refine zv_zlt hB zd210_1 rfl (fun hc1 => ?_) (fun hc1 => ?_)
  · rw [if_pos hc1] at h
    refine zv_con hB zd210_28 rfl ?_
    have hw := Option.some.inj h
    subst hw
    exact hret _ _ _ _ _ zd210_29 (by constructor <;> decide) ⟨rfl, rfl, rfl⟩
  · rw [if_neg (Int.not_lt.mpr hc1)] at h
    refine zv_ild hB zd210_4 rfl rfl ?_
    refine zv_con hB zd210_5 rfl ?_
    refine zv_cge hB zd210_7 rfl (fun hc2 => ?_) (fun hc2 => ?_)
    · rw [if_neg (Int.not_lt.mpr hc2)] at h
      refine zv_con hB zd210_28 rfl ?_
      have hw := Option.some.inj h
      subst hw
      exact hret _ _ _ _ _ zd210_29 (by constructor <;> decide) ⟨rfl, rfl, rfl⟩
    · rw [if_pos hc2] at h
      refine zv_ald hB zd210_10 rfl rfl rfl ?_
      refine zv_getr hB zd210_11 rfl ?_
      refine zv_con hB zd210_14 rfl ?_
      refine zv_iald hB zd210_16 rfl rfl (by decide) (by decide) (fun _ _ => ?_)
      refine zv_ild hB zd210_17 rfl rfl ?_
      obtain ⟨r3, hr3, h⟩ := zi_bind h
      refine zv_cs hB (zv_emq (va2 := [.inl (g0 127), .inl x1]) (F := []) (F' := []) (G := [g0]) (G' := [g0]) (ρ := []) (φ := []) (ψ := []) [] [none] zyw_M_has zyw_M_isShip zye_M_isShip (by decide +kernel) (zt_M_has hr3) trivial trivial rfl rfl rfl rfl rfl rfl rfl) zd210_18 zxt204 rfl (by decide) (by decide) rfl ?_
      refine zv_zeq hB zd210_21 rfl (fun hc4 => ?_) (fun hc4 => ?_)
      · rw [if_pos hc4] at h
        refine zv_con hB zd210_28 rfl ?_
        have hw := Option.some.inj h
        subst hw
        exact hret _ _ _ _ _ zd210_29 (by constructor <;> decide) ⟨rfl, rfl, rfl⟩
      · rw [if_neg hc4] at h
        refine zv_con hB zd210_24 rfl ?_
        refine zv_goto hB zd210_25 rfl ?_
        have hw := Option.some.inj h
        subst hw
        exact hret _ _ _ _ _ zd210_29 (by constructor <;> decide) ⟨rfl, rfl, rfl⟩
/-! M_land (IIZ)Z -/
-- names: 0 StarTalesModel('arg', 0), 1 (0, 422)(0, 12, 0)
-- fields: ; arrays: g0 = 1; out: [('ret', None), ('g', 0)]
abbrev zy_M_land : zNL := (2, [(0, 12)], [], [(0, 12, 0, 1)], [(1, 0, 422, 0)])
theorem zyw_M_land : zv_wf zy_M_land = true := by decide +kernel
theorem zye_M_land : zv_ek2 zy_M_land = true := by decide +kernel
def zf_M_land_l0_b (x1 : Int) (x2 : Int) (g0 : (Int → Int)) (rec : Int → Option (((Unit) ⊕ (Int × (Int → Int))))) (x4 : Int) : Option (((Unit) ⊕ (Int × (Int → Int)))) := if x4 < 6 then ((zf_M_isShip x4 g0).bind fun r4 => (if r4 = 0 then (rec (zi_w (x4 + 1))) else (cond (zi_ix (zi_w (120 + x4)) 422) (if (g0 (zi_w (120 + x4))) = (zi_w ((zi_w (24 * x2)) + x1)) then (some (.inr (0, g0))) else (rec (zi_w (x4 + 1)))) none))) else (some (.inl ()))
def zf_M_land_l0 (x1 : Int) (x2 : Int) (g0 : (Int → Int)) : Nat → Int → Option (((Unit) ⊕ (Int × (Int → Int))))
  | 0, _ => none
  | n + 1, x4 => zf_M_land_l0_b x1 x2 g0 (zf_M_land_l0 x1 x2 g0 n) x4
def zf_M_land (x1 : Int) (x2 : Int) (x3 : Int) (g0 : (Int → Int)) : Option (Int × (Int → Int)) := (zf_M_isPlace x1 x2).bind fun r1 => (if r1 = 0 then (some (0, g0)) else ((zf_M_land_l0 x1 x2 g0 zi_fu 0).bind fun q8 => Sum.elim (fun e9 => (if x3 = 0 then (cond (zi_ix (zi_w ((zi_w (134 + (zi_w (24 * x2)))) + x1)) 422) (some (1, (zv_up g0 (zi_w ((zi_w (134 + (zi_w (24 * x2)))) + x1)) 0))) none) else (cond (zi_ix (zi_w ((zi_w (134 + (zi_w (24 * x2)))) + x1)) 422) (some (1, (zv_up g0 (zi_w ((zi_w (134 + (zi_w (24 * x2)))) + x1)) 1))) none))) (fun w13 => some w13) q8))
theorem zd209_0 : decode zxm209.2.1 0 = .ok (.iload_n 1, 1) := by decide +kernel
theorem zd209_1 : decode zxm209.2.1 1 = .ok (.iload_n 2, 1) := by decide +kernel
theorem zd209_2 : decode zxm209.2.1 2 = .ok (.invokestatic 154, 3) := by decide +kernel
theorem zd209_5 : decode zxm209.2.1 5 = .ok (.ifCond .ne 5, 3) := by decide +kernel
theorem zd209_8 : decode zxm209.2.1 8 = .ok (.iconst 0, 1) := by decide +kernel
theorem zd209_9 : decode zxm209.2.1 9 = .ok (.ireturn, 1) := by decide +kernel
theorem zd209_10 : decode zxm209.2.1 10 = .ok (.iconst 0, 1) := by decide +kernel
theorem zd209_11 : decode zxm209.2.1 11 = .ok (.istore 4, 2) := by decide +kernel
theorem zd209_13 : decode zxm209.2.1 13 = .ok (.iload 4, 2) := by decide +kernel
theorem zd209_15 : decode zxm209.2.1 15 = .ok (.bipush 6, 2) := by decide +kernel
theorem zd209_17 : decode zxm209.2.1 17 = .ok (.if_icmp .ge 39, 3) := by decide +kernel
theorem zd209_20 : decode zxm209.2.1 20 = .ok (.aload_n 0, 1) := by decide +kernel
theorem zd209_21 : decode zxm209.2.1 21 = .ok (.iload 4, 2) := by decide +kernel
theorem zd209_23 : decode zxm209.2.1 23 = .ok (.invokevirtual 162, 3) := by decide +kernel
theorem zd209_26 : decode zxm209.2.1 26 = .ok (.ifCond .eq 24, 3) := by decide +kernel
theorem zd209_29 : decode zxm209.2.1 29 = .ok (.aload_n 0, 1) := by decide +kernel
theorem zd209_30 : decode zxm209.2.1 30 = .ok (.getfield 7, 3) := by decide +kernel
theorem zd209_33 : decode zxm209.2.1 33 = .ok (.bipush 120, 2) := by decide +kernel
theorem zd209_35 : decode zxm209.2.1 35 = .ok (.iload 4, 2) := by decide +kernel
theorem zd209_37 : decode zxm209.2.1 37 = .ok (.iadd, 1) := by decide +kernel
theorem zd209_38 : decode zxm209.2.1 38 = .ok (.iaload, 1) := by decide +kernel
theorem zd209_39 : decode zxm209.2.1 39 = .ok (.bipush 24, 2) := by decide +kernel
theorem zd209_41 : decode zxm209.2.1 41 = .ok (.iload_n 2, 1) := by decide +kernel
theorem zd209_42 : decode zxm209.2.1 42 = .ok (.imul, 1) := by decide +kernel
theorem zd209_43 : decode zxm209.2.1 43 = .ok (.iload_n 1, 1) := by decide +kernel
theorem zd209_44 : decode zxm209.2.1 44 = .ok (.iadd, 1) := by decide +kernel
theorem zd209_45 : decode zxm209.2.1 45 = .ok (.if_icmp .ne 5, 3) := by decide +kernel
theorem zd209_48 : decode zxm209.2.1 48 = .ok (.iconst 0, 1) := by decide +kernel
theorem zd209_49 : decode zxm209.2.1 49 = .ok (.ireturn, 1) := by decide +kernel
theorem zd209_50 : decode zxm209.2.1 50 = .ok (.iinc 4 1, 3) := by decide +kernel
theorem zd209_53 : decode zxm209.2.1 53 = .ok (.goto (-40), 3) := by decide +kernel
theorem zd209_56 : decode zxm209.2.1 56 = .ok (.aload_n 0, 1) := by decide +kernel
theorem zd209_57 : decode zxm209.2.1 57 = .ok (.getfield 7, 3) := by decide +kernel
theorem zd209_60 : decode zxm209.2.1 60 = .ok (.sipush 134, 3) := by decide +kernel
theorem zd209_63 : decode zxm209.2.1 63 = .ok (.bipush 24, 2) := by decide +kernel
theorem zd209_65 : decode zxm209.2.1 65 = .ok (.iload_n 2, 1) := by decide +kernel
theorem zd209_66 : decode zxm209.2.1 66 = .ok (.imul, 1) := by decide +kernel
theorem zd209_67 : decode zxm209.2.1 67 = .ok (.iadd, 1) := by decide +kernel
theorem zd209_68 : decode zxm209.2.1 68 = .ok (.iload_n 1, 1) := by decide +kernel
theorem zd209_69 : decode zxm209.2.1 69 = .ok (.iadd, 1) := by decide +kernel
theorem zd209_70 : decode zxm209.2.1 70 = .ok (.iload_n 3, 1) := by decide +kernel
theorem zd209_71 : decode zxm209.2.1 71 = .ok (.ifCond .eq 7, 3) := by decide +kernel
theorem zd209_74 : decode zxm209.2.1 74 = .ok (.iconst 1, 1) := by decide +kernel
theorem zd209_75 : decode zxm209.2.1 75 = .ok (.goto 4, 3) := by decide +kernel
theorem zd209_78 : decode zxm209.2.1 78 = .ok (.iconst 0, 1) := by decide +kernel
theorem zd209_79 : decode zxm209.2.1 79 = .ok (.iastore, 1) := by decide +kernel
theorem zd209_80 : decode zxm209.2.1 80 = .ok (.iconst 1, 1) := by decide +kernel
theorem zd209_81 : decode zxm209.2.1 81 = .ok (.ireturn, 1) := by decide +kernel
theorem zt_M_land {x1 : Int} {x2 : Int} {x3 : Int} {g0 : (Int → Int)} {o : Int × (Int → Int)} (h : zf_M_land x1 x2 x3 g0 = some o) : zv_Fn z_TB z_cl z_KX zy_M_land zxm209 (2, 120) [.inr 0, .inl x1, .inl x2, .inl x3] [] [g0] (some o.1) [] [o.2] := zv_meth (K := (z_KF13, z_KC13, z_KL13, z_KT13, [], [], [], none)) (FT := z_FT) (MT := z_MT) (n := 4) zxp209 (z_ks13 _ (fun _ h => List.mem_cons_of_mem _ h) _ _ _ _ (fun j r h _ => by cases h)) (fun _ _ => zs_KX_p) zyw_M_land (fun va F G h => by obtain ⟨rfl, _⟩ := h; rfl) (fun va F G h => by obtain ⟨rfl, _⟩ := h; rfl) rfl fun good va F G hB hret hvret hP => by
  obtain ⟨rfl, rfl, rfl⟩ := hP
  have l0 : ∀ (n : Nat) (x1 : Int) (x2 : Int) (x3 : Int) (x4 : Int) (g0 : (Int → Int)) (q : ((Unit) ⊕ (Int × (Int → Int)))), zf_M_land_l0 x1 x2 g0 n x4 = some q → (Sum.elim (fun e : Unit => good 56 [.inr 0, .inl x1, .inl x2, .inl x3, .inr 1000] [] [] [g0]) (fun w : Int × (Int → Int) => w = o) q) → good 13 [.inr 0, .inl x1, .inl x2, .inl x3, .inl x4] [] [] [g0] := by
    intro n
    induction n with
    | zero => intro x1 x2 x3 x4 g0 q h; exact absurd (show none = some q from h) (fun h => by cases h)
    | succ n ih =>
      intro x1 x2 x3 x4 g0 q h hK
      replace h : zf_M_land_l0_b x1 x2 g0 (zf_M_land_l0 x1 x2 g0 n) x4 = some q := h
      unfold zf_M_land_l0_b at h
      refine zv_ild hB zd209_13 rfl rfl ?_
      refine zv_con hB zd209_15 rfl ?_
      refine zv_cge hB zd209_17 rfl (fun hc3 => ?_) (fun hc3 => ?_)
      · rw [if_neg (Int.not_lt.mpr hc3)] at h
        have hq := Option.some.inj h
        subst hq
        refine zv_wk hB (L' := [.inr 0, .inl x1, .inl x2, .inl x3, .inr 1000]) (F' := []) ⟨fun _ => rfl, fun _ => rfl, fun _ => rfl, fun _ => rfl, fun (h : zv_is (.inr 1000)) => (Nat.lt_irrefl 1000 h).elim, trivial⟩ trivial ?_
        exact hK
      · rw [if_pos hc3] at h
        refine zv_ald hB zd209_20 rfl rfl rfl ?_
        refine zv_ild hB zd209_21 rfl rfl ?_
        obtain ⟨r4, hr4, h⟩ := zi_bind h
        refine zv_cv hB (zv_emq (va2 := [.inr 0, .inl x4]) (F := []) (F' := []) (G := [g0]) (G' := [g0]) (ρ := [0, 1]) (φ := []) (ψ := [0]) [] [some 0] zyw_M_isShip zyw_M_land zye_M_land (by decide +kernel) (zt_M_isShip hr4) trivial ⟨rfl, trivial⟩ rfl rfl rfl rfl rfl rfl rfl) zd209_23 zxt210 rfl (by decide) (by decide) rfl ?_
        refine zv_zeq hB zd209_26 rfl (fun hc5 => ?_) (fun hc5 => ?_)
        · rw [if_pos hc5] at h
          refine zv_iincw hB zd209_50 rfl rfl ?_
          refine zv_goto hB zd209_53 rfl ?_
          exact ih _ _ _ _ _ q h hK
        · rw [if_neg hc5] at h
          refine zv_ald hB zd209_29 rfl rfl rfl ?_
          refine zv_getr hB zd209_30 rfl ?_
          refine zv_con hB zd209_33 rfl ?_
          refine zv_ild hB zd209_35 rfl rfl ?_
          refine zv_addw hB zd209_37 ?_
          obtain ⟨c6, h⟩ := zi_if h
          refine zv_iald hB zd209_38 rfl rfl (zi_ix_ok c6).1 (zi_ix_ok c6).2 (fun _ _ => ?_)
          refine zv_con hB zd209_39 rfl ?_
          refine zv_ild hB zd209_41 rfl rfl ?_
          refine zv_mulw hB zd209_42 ?_
          refine zv_ild hB zd209_43 rfl rfl ?_
          refine zv_addw hB zd209_44 ?_
          refine zv_cne hB zd209_45 rfl (fun hc7 => ?_) (fun hc7 => ?_)
          · rw [if_neg hc7] at h
            refine zv_iincw hB zd209_50 rfl rfl ?_
            refine zv_goto hB zd209_53 rfl ?_
            exact ih _ _ _ _ _ q h hK
          · rw [if_pos hc7] at h
            refine zv_con hB zd209_48 rfl ?_
            have hw : (0, g0) = o := zi_rk (Option.some.inj h) hK
            subst hw
            exact hret _ _ _ _ _ zd209_49 (by constructor <;> decide) ⟨rfl, rfl, rfl⟩
  unfold zf_M_land at h
  refine zv_ild hB zd209_0 rfl rfl ?_
  refine zv_ild hB zd209_1 rfl rfl ?_
  obtain ⟨r1, hr1, h⟩ := zi_bind h
  refine zv_cs hB (zv_emq (va2 := [.inl x1, .inl x2]) (F := []) (F' := []) (G := [g0]) (G' := [g0]) (ρ := []) (φ := []) (ψ := []) [] [none] zyw_M_isPlace zyw_M_land zye_M_land (by decide +kernel) (zt_M_isPlace hr1) trivial trivial rfl rfl rfl rfl rfl rfl rfl) zd209_2 zxt201 rfl (by decide) (by decide) rfl ?_
  refine zv_zne hB zd209_5 rfl (fun hc2 => ?_) (fun hc2 => ?_)
  · rw [if_neg hc2] at h
    refine zv_con hB zd209_10 rfl ?_
    refine zv_ist hB zd209_11 rfl rfl rfl ?_
    obtain ⟨q8, hq8, h⟩ := zi_bind h
    refine l0 _ _ _ _ _ _ q8 hq8 ?_
    rcases q8 with e9 | w13
    · replace h := zi_sl h
      show good 56 [.inr 0, .inl x1, .inl x2, .inl x3, .inr 1000] [] [] [g0]
      refine zv_ald hB zd209_56 rfl rfl rfl ?_
      refine zv_getr hB zd209_57 rfl ?_
      refine zv_con hB zd209_60 rfl ?_
      refine zv_con hB zd209_63 rfl ?_
      refine zv_ild hB zd209_65 rfl rfl ?_
      refine zv_mulw hB zd209_66 ?_
      refine zv_addw hB zd209_67 ?_
      refine zv_ild hB zd209_68 rfl rfl ?_
      refine zv_addw hB zd209_69 ?_
      refine zv_ild hB zd209_70 rfl rfl ?_
      refine zv_zeq hB zd209_71 rfl (fun hc10 => ?_) (fun hc10 => ?_)
      · rw [if_pos hc10] at h
        refine zv_con hB zd209_78 rfl ?_
        obtain ⟨c11, h⟩ := zi_if h
        refine zv_iast hB zd209_79 rfl rfl (zi_ix_ok c11).1 (zi_ix_ok c11).2 ?_
        refine zv_con hB zd209_80 rfl ?_
        have hw := Option.some.inj h
        subst hw
        exact hret _ _ _ _ _ zd209_81 (by constructor <;> decide) ⟨rfl, rfl, rfl⟩
      · rw [if_neg hc10] at h
        refine zv_con hB zd209_74 rfl ?_
        refine zv_goto hB zd209_75 rfl ?_
        obtain ⟨c12, h⟩ := zi_if h
        refine zv_iast hB zd209_79 rfl rfl (zi_ix_ok c12).1 (zi_ix_ok c12).2 ?_
        refine zv_con hB zd209_80 rfl ?_
        have hw := Option.some.inj h
        subst hw
        exact hret _ _ _ _ _ zd209_81 (by constructor <;> decide) ⟨rfl, rfl, rfl⟩
    · exact Option.some.inj h
  · rw [if_pos hc2] at h
    refine zv_con hB zd209_8 rfl ?_
    have hw := Option.some.inj h
    subst hw
    exact hret _ _ _ _ _ zd209_9 (by constructor <;> decide) ⟨rfl, rfl, rfl⟩
/-! M_isLand (I)Z -/
-- names: 0 StarTalesModel('arg', 0), 1 (0, 422)(0, 12, 0)
-- fields: ; arrays: g0 = 1; out: [('ret', None)]
abbrev zy_M_isLand : zNL := (2, [(0, 12)], [], [(0, 12, 0, 1)], [(1, 0, 422, 0)])
theorem zyw_M_isLand : zv_wf zy_M_isLand = true := by decide +kernel
theorem zye_M_isLand : zv_ek2 zy_M_isLand = true := by decide +kernel
def zf_M_isLand (x1 : Int) (g0 : (Int → Int)) : Option (Int) := cond (zi_ix (zi_w (134 + x1)) 422) (if (g0 (zi_w (134 + x1))) = 1 then (some 1) else (some 0)) none
theorem zd212_0 : decode zxm212.2.1 0 = .ok (.aload_n 0, 1) := by decide +kernel
theorem zd212_1 : decode zxm212.2.1 1 = .ok (.getfield 7, 3) := by decide +kernel
theorem zd212_4 : decode zxm212.2.1 4 = .ok (.sipush 134, 3) := by decide +kernel
theorem zd212_7 : decode zxm212.2.1 7 = .ok (.iload_n 1, 1) := by decide +kernel
theorem zd212_8 : decode zxm212.2.1 8 = .ok (.iadd, 1) := by decide +kernel
theorem zd212_9 : decode zxm212.2.1 9 = .ok (.iaload, 1) := by decide +kernel
theorem zd212_10 : decode zxm212.2.1 10 = .ok (.iconst 1, 1) := by decide +kernel
theorem zd212_11 : decode zxm212.2.1 11 = .ok (.if_icmp .ne 7, 3) := by decide +kernel
theorem zd212_14 : decode zxm212.2.1 14 = .ok (.iconst 1, 1) := by decide +kernel
theorem zd212_15 : decode zxm212.2.1 15 = .ok (.goto 4, 3) := by decide +kernel
theorem zd212_18 : decode zxm212.2.1 18 = .ok (.iconst 0, 1) := by decide +kernel
theorem zd212_19 : decode zxm212.2.1 19 = .ok (.ireturn, 1) := by decide +kernel
theorem zt_M_isLand {x1 : Int} {g0 : (Int → Int)} {o : Int} (h : zf_M_isLand x1 g0 = some o) : zv_Fn z_TB z_cl z_KX zy_M_isLand zxm212 (0, 0) [.inr 0, .inl x1] [] [g0] (some o) [] [g0] := zv_meth (K := (z_KF13, z_KC13, z_KL13, z_KT13, [], [], [], none)) (FT := z_FT) (MT := z_MT) (n := 2) zxp212 (z_ks13 _ (fun _ h => List.mem_cons_of_mem _ h) _ _ _ _ (fun j r h _ => by cases h)) (fun _ _ => zs_KX_p) zyw_M_isLand (fun va F G h => by obtain ⟨rfl, _⟩ := h; rfl) (fun va F G h => by obtain ⟨rfl, _⟩ := h; rfl) rfl fun good va F G hB hret hvret hP => by
  obtain ⟨rfl, rfl, rfl⟩ := hP
  unfold zf_M_isLand at h
  refine zv_ald hB zd212_0 rfl rfl rfl ?_
  refine zv_getr hB zd212_1 rfl ?_
  refine zv_con hB zd212_4 rfl ?_
  refine zv_ild hB zd212_7 rfl rfl ?_
  refine zv_addw hB zd212_8 ?_
  obtain ⟨c1, h⟩ := zi_if h
  refine zv_iald hB zd212_9 rfl rfl (zi_ix_ok c1).1 (zi_ix_ok c1).2 (fun _ _ => ?_)
  refine zv_con hB zd212_10 rfl ?_
  refine zv_cne hB zd212_11 rfl (fun hc2 => ?_) (fun hc2 => ?_)
  · rw [if_neg hc2] at h
    refine zv_con hB zd212_18 rfl ?_
    have hw := Option.some.inj h
    subst hw
    exact hret _ _ _ _ _ zd212_19 (by constructor <;> decide) ⟨rfl, rfl, rfl⟩
  · rw [if_pos hc2] at h
    refine zv_con hB zd212_14 rfl ?_
    refine zv_goto hB zd212_15 rfl ?_
    have hw := Option.some.inj h
    subst hw
    exact hret _ _ _ _ _ zd212_19 (by constructor <;> decide) ⟨rfl, rfl, rfl⟩
/-! M_ship (III)Z -/
-- names: 0 StarTalesModel('arg', 0), 1 (0, 422)(0, 12, 0)
-- fields: ; arrays: g0 = 1; out: [('ret', None), ('g', 0)]
abbrev zy_M_ship : zNL := (2, [(0, 12)], [], [(0, 12, 0, 1)], [(1, 0, 422, 0)])
theorem zyw_M_ship : zv_wf zy_M_ship = true := by decide +kernel
theorem zye_M_ship : zv_ek2 zy_M_ship = true := by decide +kernel
def zf_M_ship (x1 : Int) (x2 : Int) (x3 : Int) (g0 : (Int → Int)) : Option (Int × (Int → Int)) := (zf_M_in x1 0 5).bind fun r1 => (if r1 = 0 then (some (0, g0)) else ((zf_M_isPlace x2 x3).bind fun r3 => (if r3 = 0 then (some (0, g0)) else ((zf_M_isLand (zi_w ((zi_w (24 * x3)) + x2)) g0).bind fun r5 => (if r5 = 0 then (cond (zi_ix (zi_w (120 + x1)) 422) (some (1, (zv_up (zv_up g0 127 (zi_or (g0 127) (zi_shl 1 x1))) (zi_w (120 + x1)) (zi_w ((zi_w (24 * x3)) + x2))))) none) else (some (0, g0)))))))
theorem zd211_0 : decode zxm211.2.1 0 = .ok (.iload_n 1, 1) := by decide +kernel
theorem zd211_1 : decode zxm211.2.1 1 = .ok (.iconst 0, 1) := by decide +kernel
theorem zd211_2 : decode zxm211.2.1 2 = .ok (.iconst 5, 1) := by decide +kernel
theorem zd211_3 : decode zxm211.2.1 3 = .ok (.invokestatic 150, 3) := by decide +kernel
theorem zd211_6 : decode zxm211.2.1 6 = .ok (.ifCond .eq 24, 3) := by decide +kernel
theorem zd211_9 : decode zxm211.2.1 9 = .ok (.iload_n 2, 1) := by decide +kernel
theorem zd211_10 : decode zxm211.2.1 10 = .ok (.iload_n 3, 1) := by decide +kernel
theorem zd211_11 : decode zxm211.2.1 11 = .ok (.invokestatic 154, 3) := by decide +kernel
theorem zd211_14 : decode zxm211.2.1 14 = .ok (.ifCond .eq 16, 3) := by decide +kernel
theorem zd211_17 : decode zxm211.2.1 17 = .ok (.aload_n 0, 1) := by decide +kernel
theorem zd211_18 : decode zxm211.2.1 18 = .ok (.bipush 24, 2) := by decide +kernel
theorem zd211_20 : decode zxm211.2.1 20 = .ok (.iload_n 3, 1) := by decide +kernel
theorem zd211_21 : decode zxm211.2.1 21 = .ok (.imul, 1) := by decide +kernel
theorem zd211_22 : decode zxm211.2.1 22 = .ok (.iload_n 2, 1) := by decide +kernel
theorem zd211_23 : decode zxm211.2.1 23 = .ok (.iadd, 1) := by decide +kernel
theorem zd211_24 : decode zxm211.2.1 24 = .ok (.invokevirtual 165, 3) := by decide +kernel
theorem zd211_27 : decode zxm211.2.1 27 = .ok (.ifCond .eq 5, 3) := by decide +kernel
theorem zd211_30 : decode zxm211.2.1 30 = .ok (.iconst 0, 1) := by decide +kernel
theorem zd211_31 : decode zxm211.2.1 31 = .ok (.ireturn, 1) := by decide +kernel
theorem zd211_32 : decode zxm211.2.1 32 = .ok (.aload_n 0, 1) := by decide +kernel
theorem zd211_33 : decode zxm211.2.1 33 = .ok (.getfield 7, 3) := by decide +kernel
theorem zd211_36 : decode zxm211.2.1 36 = .ok (.bipush 127, 2) := by decide +kernel
theorem zd211_38 : decode zxm211.2.1 38 = .ok (.aload_n 0, 1) := by decide +kernel
theorem zd211_39 : decode zxm211.2.1 39 = .ok (.getfield 7, 3) := by decide +kernel
theorem zd211_42 : decode zxm211.2.1 42 = .ok (.bipush 127, 2) := by decide +kernel
theorem zd211_44 : decode zxm211.2.1 44 = .ok (.iaload, 1) := by decide +kernel
theorem zd211_45 : decode zxm211.2.1 45 = .ok (.iconst 1, 1) := by decide +kernel
theorem zd211_46 : decode zxm211.2.1 46 = .ok (.iload_n 1, 1) := by decide +kernel
theorem zd211_47 : decode zxm211.2.1 47 = .ok (.ishl, 1) := by decide +kernel
theorem zd211_48 : decode zxm211.2.1 48 = .ok (.ior, 1) := by decide +kernel
theorem zd211_49 : decode zxm211.2.1 49 = .ok (.iastore, 1) := by decide +kernel
theorem zd211_50 : decode zxm211.2.1 50 = .ok (.aload_n 0, 1) := by decide +kernel
theorem zd211_51 : decode zxm211.2.1 51 = .ok (.getfield 7, 3) := by decide +kernel
theorem zd211_54 : decode zxm211.2.1 54 = .ok (.bipush 120, 2) := by decide +kernel
theorem zd211_56 : decode zxm211.2.1 56 = .ok (.iload_n 1, 1) := by decide +kernel
theorem zd211_57 : decode zxm211.2.1 57 = .ok (.iadd, 1) := by decide +kernel
theorem zd211_58 : decode zxm211.2.1 58 = .ok (.bipush 24, 2) := by decide +kernel
theorem zd211_60 : decode zxm211.2.1 60 = .ok (.iload_n 3, 1) := by decide +kernel
theorem zd211_61 : decode zxm211.2.1 61 = .ok (.imul, 1) := by decide +kernel
theorem zd211_62 : decode zxm211.2.1 62 = .ok (.iload_n 2, 1) := by decide +kernel
theorem zd211_63 : decode zxm211.2.1 63 = .ok (.iadd, 1) := by decide +kernel
theorem zd211_64 : decode zxm211.2.1 64 = .ok (.iastore, 1) := by decide +kernel
theorem zd211_65 : decode zxm211.2.1 65 = .ok (.iconst 1, 1) := by decide +kernel
theorem zd211_66 : decode zxm211.2.1 66 = .ok (.ireturn, 1) := by decide +kernel
theorem zt_M_ship {x1 : Int} {x2 : Int} {x3 : Int} {g0 : (Int → Int)} {o : Int × (Int → Int)} (h : zf_M_ship x1 x2 x3 g0 = some o) : zv_Fn z_TB z_cl z_KX zy_M_ship zxm211 (1, 60) [.inr 0, .inl x1, .inl x2, .inl x3] [] [g0] (some o.1) [] [o.2] := zv_meth (K := (z_KF13, z_KC13, z_KL13, z_KT13, [], [], [], none)) (FT := z_FT) (MT := z_MT) (n := 4) zxp211 (z_ks13 _ (fun _ h => List.mem_cons_of_mem _ h) _ _ _ _ (fun j r h _ => by cases h)) (fun _ _ => zs_KX_p) zyw_M_ship (fun va F G h => by obtain ⟨rfl, _⟩ := h; rfl) (fun va F G h => by obtain ⟨rfl, _⟩ := h; rfl) rfl fun good va F G hB hret hvret hP => by
  obtain ⟨rfl, rfl, rfl⟩ := hP
  unfold zf_M_ship at h
  refine zv_ild hB zd211_0 rfl rfl ?_
  refine zv_con hB zd211_1 rfl ?_
  refine zv_con hB zd211_2 rfl ?_
  obtain ⟨r1, hr1, h⟩ := zi_bind h
  refine zv_cs hB (zv_emq (va2 := [.inl x1, .inl 0, .inl 5]) (F := []) (F' := []) (G := [g0]) (G' := [g0]) (ρ := []) (φ := []) (ψ := []) [] [none] zyw_M_in zyw_M_ship zye_M_ship (by decide +kernel) (zt_M_in hr1) trivial trivial rfl rfl rfl rfl rfl rfl rfl) zd211_3 zxt200 rfl (by decide) (by decide) rfl ?_
  refine zv_zeq hB zd211_6 rfl (fun hc2 => ?_) (fun hc2 => ?_)
  · rw [if_pos hc2] at h
    refine zv_con hB zd211_30 rfl ?_
    have hw := Option.some.inj h
    subst hw
    exact hret _ _ _ _ _ zd211_31 (by constructor <;> decide) ⟨rfl, rfl, rfl⟩
  · rw [if_neg hc2] at h
    refine zv_ild hB zd211_9 rfl rfl ?_
    refine zv_ild hB zd211_10 rfl rfl ?_
    obtain ⟨r3, hr3, h⟩ := zi_bind h
    refine zv_cs hB (zv_emq (va2 := [.inl x2, .inl x3]) (F := []) (F' := []) (G := [g0]) (G' := [g0]) (ρ := []) (φ := []) (ψ := []) [] [none] zyw_M_isPlace zyw_M_ship zye_M_ship (by decide +kernel) (zt_M_isPlace hr3) trivial trivial rfl rfl rfl rfl rfl rfl rfl) zd211_11 zxt201 rfl (by decide) (by decide) rfl ?_
    refine zv_zeq hB zd211_14 rfl (fun hc4 => ?_) (fun hc4 => ?_)
    · rw [if_pos hc4] at h
      refine zv_con hB zd211_30 rfl ?_
      have hw := Option.some.inj h
      subst hw
      exact hret _ _ _ _ _ zd211_31 (by constructor <;> decide) ⟨rfl, rfl, rfl⟩
    · rw [if_neg hc4] at h
      refine zv_ald hB zd211_17 rfl rfl rfl ?_
      refine zv_con hB zd211_18 rfl ?_
      refine zv_ild hB zd211_20 rfl rfl ?_
      refine zv_mulw hB zd211_21 ?_
      refine zv_ild hB zd211_22 rfl rfl ?_
      refine zv_addw hB zd211_23 ?_
      obtain ⟨r5, hr5, h⟩ := zi_bind h
      refine zv_cv hB (zv_emq (va2 := [.inr 0, .inl (zi_w ((zi_w (24 * x3)) + x2))]) (F := []) (F' := []) (G := [g0]) (G' := [g0]) (ρ := [0, 1]) (φ := []) (ψ := [0]) [] [some 0] zyw_M_isLand zyw_M_ship zye_M_ship (by decide +kernel) (zt_M_isLand hr5) trivial ⟨rfl, trivial⟩ rfl rfl rfl rfl rfl rfl rfl) zd211_24 zxt212 rfl (by decide) (by decide) rfl ?_
      refine zv_zeq hB zd211_27 rfl (fun hc6 => ?_) (fun hc6 => ?_)
      · rw [if_pos hc6] at h
        refine zv_ald hB zd211_32 rfl rfl rfl ?_
        refine zv_getr hB zd211_33 rfl ?_
        refine zv_con hB zd211_36 rfl ?_
        refine zv_ald hB zd211_38 rfl rfl rfl ?_
        refine zv_getr hB zd211_39 rfl ?_
        refine zv_con hB zd211_42 rfl ?_
        refine zv_iald hB zd211_44 rfl rfl (by decide) (by decide) (fun _ _ => ?_)
        refine zv_con hB zd211_45 rfl ?_
        refine zv_ild hB zd211_46 rfl rfl ?_
        refine zv_shlw hB zd211_47 ?_
        refine zv_orw hB zd211_48 ?_
        refine zv_iast hB zd211_49 rfl rfl (by decide) (by decide) ?_
        refine zv_ald hB zd211_50 rfl rfl rfl ?_
        refine zv_getr hB zd211_51 rfl ?_
        refine zv_con hB zd211_54 rfl ?_
        refine zv_ild hB zd211_56 rfl rfl ?_
        refine zv_addw hB zd211_57 ?_
        refine zv_con hB zd211_58 rfl ?_
        refine zv_ild hB zd211_60 rfl rfl ?_
        refine zv_mulw hB zd211_61 ?_
        refine zv_ild hB zd211_62 rfl rfl ?_
        refine zv_addw hB zd211_63 ?_
        obtain ⟨c7, h⟩ := zi_if h
        refine zv_iast hB zd211_64 rfl rfl (zi_ix_ok c7).1 (zi_ix_ok c7).2 ?_
        refine zv_con hB zd211_65 rfl ?_
        have hw := Option.some.inj h
        subst hw
        exact hret _ _ _ _ _ zd211_66 (by constructor <;> decide) ⟨rfl, rfl, rfl⟩
      · rw [if_neg hc6] at h
        refine zv_con hB zd211_30 rfl ?_
        have hw := Option.some.inj h
        subst hw
        exact hret _ _ _ _ _ zd211_31 (by constructor <;> decide) ⟨rfl, rfl, rfl⟩
/-! M_types (I)V -/
-- names: 0 StarTalesModel('arg', 0), 1 (1, 220)(0, 12, 3)
-- fields: f0 = 0.taped_; arrays: g0 = 1; out: [('f', 0), ('g', 0)]
abbrev zy_M_types : zNL := (2, [(0, 12)], [(0, 12, 4, 0)], [(0, 12, 3, 1)], [(1, 1, 220, 0)])
theorem zyw_M_types : zv_wf zy_M_types = true := by decide +kernel
theorem zye_M_types : zv_ek2 zy_M_types = true := by decide +kernel
def zf_M_types_l0_b (x1 : Int) (rec : Int → Int → (Int → Int) → Option (Int × (Int → Int))) (x2 : Int) (f0 : Int) (g0 : (Int → Int)) : Option (Int × (Int → Int)) := if x2 < 0 then (some (f0, g0)) else (cond (zi_ix f0 220) (rec (zi_w (x2 + (-1))) (zi_w (f0 + 1)) (zv_up g0 f0 (zi_by (zi_by (zi_shr x1 (zi_w (8 * x2))))))) none)
def zf_M_types_l0 (x1 : Int) : Nat → Int → Int → (Int → Int) → Option (Int × (Int → Int))
  | 0, _, _, _ => none
  | n + 1, x2, f0, g0 => zf_M_types_l0_b x1 (zf_M_types_l0 x1 n) x2 f0 g0
def zf_M_types (x1 : Int) (f0 : Int) (g0 : (Int → Int)) : Option (Int × (Int → Int)) := (zf_M_types_l0 x1 zi_fu 3 f0 g0).bind fun q3 => (some (q3.1, q3.2))
theorem zd214_0 : decode zxm214.2.1 0 = .ok (.iconst 3, 1) := by decide +kernel
theorem zd214_1 : decode zxm214.2.1 1 = .ok (.istore_n 2, 1) := by decide +kernel
theorem zd214_2 : decode zxm214.2.1 2 = .ok (.iload_n 2, 1) := by decide +kernel
theorem zd214_3 : decode zxm214.2.1 3 = .ok (.ifCond .lt 35, 3) := by decide +kernel
theorem zd214_6 : decode zxm214.2.1 6 = .ok (.aload_n 0, 1) := by decide +kernel
theorem zd214_7 : decode zxm214.2.1 7 = .ok (.getfield 19, 3) := by decide +kernel
theorem zd214_10 : decode zxm214.2.1 10 = .ok (.aload_n 0, 1) := by decide +kernel
theorem zd214_11 : decode zxm214.2.1 11 = .ok (.getfield 168, 3) := by decide +kernel
theorem zd214_14 : decode zxm214.2.1 14 = .ok (.iload_n 1, 1) := by decide +kernel
theorem zd214_15 : decode zxm214.2.1 15 = .ok (.bipush 8, 2) := by decide +kernel
theorem zd214_17 : decode zxm214.2.1 17 = .ok (.iload_n 2, 1) := by decide +kernel
theorem zd214_18 : decode zxm214.2.1 18 = .ok (.imul, 1) := by decide +kernel
theorem zd214_19 : decode zxm214.2.1 19 = .ok (.ishr, 1) := by decide +kernel
theorem zd214_20 : decode zxm214.2.1 20 = .ok (.i2b, 1) := by decide +kernel
theorem zd214_21 : decode zxm214.2.1 21 = .ok (.bastore, 1) := by decide +kernel
theorem zd214_22 : decode zxm214.2.1 22 = .ok (.aload_n 0, 1) := by decide +kernel
theorem zd214_23 : decode zxm214.2.1 23 = .ok (.aload_n 0, 1) := by decide +kernel
theorem zd214_24 : decode zxm214.2.1 24 = .ok (.getfield 168, 3) := by decide +kernel
theorem zd214_27 : decode zxm214.2.1 27 = .ok (.iconst 1, 1) := by decide +kernel
theorem zd214_28 : decode zxm214.2.1 28 = .ok (.iadd, 1) := by decide +kernel
theorem zd214_29 : decode zxm214.2.1 29 = .ok (.putfield 168, 3) := by decide +kernel
theorem zd214_32 : decode zxm214.2.1 32 = .ok (.iinc 2 (-1), 3) := by decide +kernel
theorem zd214_35 : decode zxm214.2.1 35 = .ok (.goto (-33), 3) := by decide +kernel
theorem zd214_38 : decode zxm214.2.1 38 = .ok (.return_, 1) := by decide +kernel
theorem zt_M_types {x1 : Int} {f0 : Int} {g0 : (Int → Int)} {o : Int × (Int → Int)} (h : zf_M_types x1 f0 g0 = some o) : zv_Fn z_TB z_cl z_KX zy_M_types zxm214 (0, 0) [.inr 0, .inl x1] [.inl f0] [g0] none [.inl o.1] [o.2] := zv_meth (K := (z_KF13, z_KC13, z_KL13, z_KT13, [], [], [], none)) (FT := z_FT) (MT := z_MT) (n := 2) zxp214 (z_ks13 _ (fun _ h => List.mem_cons_of_mem _ h) _ _ _ _ (fun j r h _ => by cases h)) (fun _ _ => zs_KX_p) zyw_M_types (fun va F G h => by obtain ⟨rfl, _⟩ := h; rfl) (fun va F G h => by obtain ⟨rfl, _⟩ := h; rfl) rfl fun good va F G hB hret hvret hP => by
  obtain ⟨rfl, rfl, rfl⟩ := hP
  have l0 : ∀ (n : Nat) (x1 : Int) (x2 : Int) (f0 : Int) (g0 : (Int → Int)) (q : Int × (Int → Int)), zf_M_types_l0 x1 n x2 f0 g0 = some q → (good 38 [.inr 1000, .inr 1000, .inr 1000] [] [.inl q.1] [q.2]) → good 2 [.inr 0, .inl x1, .inl x2] [] [.inl f0] [g0] := by
    intro n
    induction n with
    | zero => intro x1 x2 f0 g0 q h; exact absurd (show none = some q from h) (fun h => by cases h)
    | succ n ih =>
      intro x1 x2 f0 g0 q h hK
      replace h : zf_M_types_l0_b x1 (zf_M_types_l0 x1 n) x2 f0 g0 = some q := h
      unfold zf_M_types_l0_b at h
      refine zv_ild hB zd214_2 rfl rfl ?_
      refine zv_zlt hB zd214_3 rfl (fun hc1 => ?_) (fun hc1 => ?_)
      · rw [if_pos hc1] at h
        have hq := Option.some.inj h
        subst hq
        refine zv_wk hB (L' := [.inr 1000, .inr 1000, .inr 1000]) (F' := [.inl f0]) ⟨fun (h : zv_is (.inr 1000)) => (Nat.lt_irrefl 1000 h).elim, fun (h : zv_is (.inr 1000)) => (Nat.lt_irrefl 1000 h).elim, fun (h : zv_is (.inr 1000)) => (Nat.lt_irrefl 1000 h).elim, trivial⟩ ⟨fun _ => rfl, trivial⟩ ?_
        exact hK
      · rw [if_neg (Int.not_lt.mpr hc1)] at h
        refine zv_ald hB zd214_6 rfl rfl rfl ?_
        refine zv_getr hB zd214_7 rfl ?_
        refine zv_ald hB zd214_10 rfl rfl rfl ?_
        refine zv_getf hB zd214_11 rfl rfl (fun _ _ => ?_)
        refine zv_ild hB zd214_14 rfl rfl ?_
        refine zv_con hB zd214_15 rfl ?_
        refine zv_ild hB zd214_17 rfl rfl ?_
        refine zv_mulw hB zd214_18 ?_
        refine zv_shrw hB zd214_19 ?_
        refine zv_i2b hB zd214_20 ?_
        obtain ⟨c2, h⟩ := zi_if h
        refine zv_bast hB zd214_21 rfl rfl (zi_ix_ok c2).1 (zi_ix_ok c2).2 ?_
        refine zv_ald hB zd214_22 rfl rfl rfl ?_
        refine zv_ald hB zd214_23 rfl rfl rfl ?_
        refine zv_getf hB zd214_24 rfl rfl (fun _ _ => ?_)
        refine zv_con hB zd214_27 rfl ?_
        refine zv_addw hB zd214_28 ?_
        refine zv_putf hB zd214_29 rfl rfl (fun h => by cases h) rfl ?_
        refine zv_iincw hB zd214_32 rfl rfl ?_
        refine zv_goto hB zd214_35 rfl ?_
        exact ih _ _ _ _ q h hK
  unfold zf_M_types at h
  refine zv_con hB zd214_0 rfl ?_
  refine zv_ist hB zd214_1 rfl rfl rfl ?_
  obtain ⟨q3, hq3, h⟩ := zi_bind h
  refine l0 _ _ _ _ _ q3 hq3 ?_
  show good 38 [.inr 1000, .inr 1000, .inr 1000] [] [.inl q3.1] [q3.2]
  have hw := Option.some.inj h
  subst hw
  exact hvret _ _ _ _ zd214_38 trivial ⟨rfl, rfl, rfl⟩
/-! M_feed (IIIII)I -/
-- names: 0 StarTalesModel('arg', 0), 1 (1, 220)(0, 12, 3)
-- fields: f0 = 0.taped_; arrays: g0 = 1; out: [('ret', None), ('f', 0), ('g', 0)]
abbrev zy_M_feed : zNL := (2, [(0, 12)], [(0, 12, 4, 0)], [(0, 12, 3, 1)], [(1, 1, 220, 0)])
theorem zyw_M_feed : zv_wf zy_M_feed = true := by decide +kernel
theorem zye_M_feed : zv_ek2 zy_M_feed = true := by decide +kernel
def zf_M_feed (x1 : Int) (x2 : Int) (x3 : Int) (x4 : Int) (x5 : Int) (f0 : Int) (g0 : (Int → Int)) : Option (Int × Int × (Int → Int)) := if 220 < (zi_w (f0 + 20)) then (some ((-1), f0, g0)) else ((zf_M_types x1 f0 g0).bind fun r2 => ((zf_M_types x2 r2.1 r2.2).bind fun r3 => ((zf_M_types x3 r3.1 r3.2).bind fun r4 => ((zf_M_types x4 r4.1 r4.2).bind fun r5 => ((zf_M_types x5 r5.1 r5.2).bind fun r6 => (some (r6.1, r6.1, r6.2)))))))
theorem zd213_0 : decode zxm213.2.1 0 = .ok (.aload_n 0, 1) := by decide +kernel
theorem zd213_1 : decode zxm213.2.1 1 = .ok (.getfield 168, 3) := by decide +kernel
theorem zd213_4 : decode zxm213.2.1 4 = .ok (.bipush 20, 2) := by decide +kernel
theorem zd213_6 : decode zxm213.2.1 6 = .ok (.iadd, 1) := by decide +kernel
theorem zd213_7 : decode zxm213.2.1 7 = .ok (.sipush 220, 3) := by decide +kernel
theorem zd213_10 : decode zxm213.2.1 10 = .ok (.if_icmp .le 5, 3) := by decide +kernel
theorem zd213_13 : decode zxm213.2.1 13 = .ok (.iconst (-1), 1) := by decide +kernel
theorem zd213_14 : decode zxm213.2.1 14 = .ok (.ireturn, 1) := by decide +kernel
theorem zd213_15 : decode zxm213.2.1 15 = .ok (.aload_n 0, 1) := by decide +kernel
theorem zd213_16 : decode zxm213.2.1 16 = .ok (.iload_n 1, 1) := by decide +kernel
theorem zd213_17 : decode zxm213.2.1 17 = .ok (.invokevirtual 172, 3) := by decide +kernel
theorem zd213_20 : decode zxm213.2.1 20 = .ok (.aload_n 0, 1) := by decide +kernel
theorem zd213_21 : decode zxm213.2.1 21 = .ok (.iload_n 2, 1) := by decide +kernel
theorem zd213_22 : decode zxm213.2.1 22 = .ok (.invokevirtual 172, 3) := by decide +kernel
theorem zd213_25 : decode zxm213.2.1 25 = .ok (.aload_n 0, 1) := by decide +kernel
theorem zd213_26 : decode zxm213.2.1 26 = .ok (.iload_n 3, 1) := by decide +kernel
theorem zd213_27 : decode zxm213.2.1 27 = .ok (.invokevirtual 172, 3) := by decide +kernel
theorem zd213_30 : decode zxm213.2.1 30 = .ok (.aload_n 0, 1) := by decide +kernel
theorem zd213_31 : decode zxm213.2.1 31 = .ok (.iload 4, 2) := by decide +kernel
theorem zd213_33 : decode zxm213.2.1 33 = .ok (.invokevirtual 172, 3) := by decide +kernel
theorem zd213_36 : decode zxm213.2.1 36 = .ok (.aload_n 0, 1) := by decide +kernel
theorem zd213_37 : decode zxm213.2.1 37 = .ok (.iload 5, 2) := by decide +kernel
theorem zd213_39 : decode zxm213.2.1 39 = .ok (.invokevirtual 172, 3) := by decide +kernel
theorem zd213_42 : decode zxm213.2.1 42 = .ok (.aload_n 0, 1) := by decide +kernel
theorem zd213_43 : decode zxm213.2.1 43 = .ok (.getfield 168, 3) := by decide +kernel
theorem zd213_46 : decode zxm213.2.1 46 = .ok (.ireturn, 1) := by decide +kernel
theorem zt_M_feed {x1 : Int} {x2 : Int} {x3 : Int} {x4 : Int} {x5 : Int} {f0 : Int} {g0 : (Int → Int)} {o : Int × Int × (Int → Int)} (h : zf_M_feed x1 x2 x3 x4 x5 f0 g0 = some o) : zv_Fn z_TB z_cl z_KX zy_M_feed zxm213 (1, 60) [.inr 0, .inl x1, .inl x2, .inl x3, .inl x4, .inl x5] [.inl f0] [g0] (some o.1) [.inl o.2.1] [o.2.2] := zv_meth (K := (z_KF13, z_KC13, z_KL13, z_KT13, [], [], [], none)) (FT := z_FT) (MT := z_MT) (n := 6) zxp213 (z_ks13 _ (fun _ h => List.mem_cons_of_mem _ h) _ _ _ _ (fun j r h _ => by cases h)) (fun _ _ => zs_KX_p) zyw_M_feed (fun va F G h => by obtain ⟨rfl, _⟩ := h; rfl) (fun va F G h => by obtain ⟨rfl, _⟩ := h; rfl) rfl fun good va F G hB hret hvret hP => by
  obtain ⟨rfl, rfl, rfl⟩ := hP
  unfold zf_M_feed at h
  refine zv_ald hB zd213_0 rfl rfl rfl ?_
  refine zv_getf hB zd213_1 rfl rfl (fun _ _ => ?_)
  refine zv_con hB zd213_4 rfl ?_
  refine zv_addw hB zd213_6 ?_
  refine zv_con hB zd213_7 rfl ?_
  refine zv_cle hB zd213_10 rfl (fun hc1 => ?_) (fun hc1 => ?_)
  · rw [if_neg (Int.not_lt.mpr hc1)] at h
    refine zv_ald hB zd213_15 rfl rfl rfl ?_
    refine zv_ild hB zd213_16 rfl rfl ?_
    obtain ⟨r2, hr2, h⟩ := zi_bind h
    refine zv_cv hB (zv_emq (va2 := [.inr 0, .inl x1]) (F := [.inl f0]) (F' := [.inl r2.1]) (G := [g0]) (G' := [r2.2]) (ρ := [0, 1]) (φ := [0]) (ψ := [0]) [some 0] [some 0] zyw_M_types zyw_M_feed zye_M_feed (by decide +kernel) (zt_M_types hr2) ⟨⟨_, rfl, fun _ => rfl⟩, trivial⟩ ⟨rfl, trivial⟩ rfl rfl rfl rfl rfl rfl rfl) zd213_17 zxt214 rfl (by decide) (by decide) rfl ?_
    refine zv_ald hB zd213_20 rfl rfl rfl ?_
    refine zv_ild hB zd213_21 rfl rfl ?_
    obtain ⟨r3, hr3, h⟩ := zi_bind h
    refine zv_cv hB (zv_emq (va2 := [.inr 0, .inl x2]) (F := [.inl r2.1]) (F' := [.inl r3.1]) (G := [r2.2]) (G' := [r3.2]) (ρ := [0, 1]) (φ := [0]) (ψ := [0]) [some 0] [some 0] zyw_M_types zyw_M_feed zye_M_feed (by decide +kernel) (zt_M_types hr3) ⟨⟨_, rfl, fun _ => rfl⟩, trivial⟩ ⟨rfl, trivial⟩ rfl rfl rfl rfl rfl rfl rfl) zd213_22 zxt214 rfl (by decide) (by decide) rfl ?_
    refine zv_ald hB zd213_25 rfl rfl rfl ?_
    refine zv_ild hB zd213_26 rfl rfl ?_
    obtain ⟨r4, hr4, h⟩ := zi_bind h
    refine zv_cv hB (zv_emq (va2 := [.inr 0, .inl x3]) (F := [.inl r3.1]) (F' := [.inl r4.1]) (G := [r3.2]) (G' := [r4.2]) (ρ := [0, 1]) (φ := [0]) (ψ := [0]) [some 0] [some 0] zyw_M_types zyw_M_feed zye_M_feed (by decide +kernel) (zt_M_types hr4) ⟨⟨_, rfl, fun _ => rfl⟩, trivial⟩ ⟨rfl, trivial⟩ rfl rfl rfl rfl rfl rfl rfl) zd213_27 zxt214 rfl (by decide) (by decide) rfl ?_
    refine zv_ald hB zd213_30 rfl rfl rfl ?_
    refine zv_ild hB zd213_31 rfl rfl ?_
    obtain ⟨r5, hr5, h⟩ := zi_bind h
    refine zv_cv hB (zv_emq (va2 := [.inr 0, .inl x4]) (F := [.inl r4.1]) (F' := [.inl r5.1]) (G := [r4.2]) (G' := [r5.2]) (ρ := [0, 1]) (φ := [0]) (ψ := [0]) [some 0] [some 0] zyw_M_types zyw_M_feed zye_M_feed (by decide +kernel) (zt_M_types hr5) ⟨⟨_, rfl, fun _ => rfl⟩, trivial⟩ ⟨rfl, trivial⟩ rfl rfl rfl rfl rfl rfl rfl) zd213_33 zxt214 rfl (by decide) (by decide) rfl ?_
    refine zv_ald hB zd213_36 rfl rfl rfl ?_
    refine zv_ild hB zd213_37 rfl rfl ?_
    obtain ⟨r6, hr6, h⟩ := zi_bind h
    refine zv_cv hB (zv_emq (va2 := [.inr 0, .inl x5]) (F := [.inl r5.1]) (F' := [.inl r6.1]) (G := [r5.2]) (G' := [r6.2]) (ρ := [0, 1]) (φ := [0]) (ψ := [0]) [some 0] [some 0] zyw_M_types zyw_M_feed zye_M_feed (by decide +kernel) (zt_M_types hr6) ⟨⟨_, rfl, fun _ => rfl⟩, trivial⟩ ⟨rfl, trivial⟩ rfl rfl rfl rfl rfl rfl rfl) zd213_39 zxt214 rfl (by decide) (by decide) rfl ?_
    refine zv_ald hB zd213_42 rfl rfl rfl ?_
    refine zv_getf hB zd213_43 rfl rfl (fun _ _ => ?_)
    have hw := Option.some.inj h
    subst hw
    exact hret _ _ _ _ _ zd213_46 (by trivial) ⟨rfl, rfl, rfl⟩
  · rw [if_pos hc1] at h
    refine zv_con hB zd213_13 rfl ?_
    have hw := Option.some.inj h
    subst hw
    exact hret _ _ _ _ _ zd213_14 (by trivial) ⟨rfl, rfl, rfl⟩
/-! M_here ()I -/
-- names: 0 StarTalesModel('arg', 0), 1 (1, 220)(0, 12, 3)
-- fields: f0 = 0.place0_, f1 = 0.length0_; arrays: g0 = 1; out: [('ret', None)]
abbrev zy_M_here : zNL := (2, [(0, 12)], [(0, 12, 5, 0), (0, 12, 6, 1)], [(0, 12, 3, 1)], [(1, 1, 220, 0)])
theorem zyw_M_here : zv_wf zy_M_here = true := by decide +kernel
theorem zye_M_here : zv_ek2 zy_M_here = true := by decide +kernel
def zf_M_here (f0 : Int) (f1 : Int) (g0 : (Int → Int)) : Option (Int) := if f0 < f1 then (cond (zi_ix f0 220) (some (zi_and (g0 f0) 255)) none) else (some (-1))
theorem zd217_0 : decode zxm217.2.1 0 = .ok (.aload_n 0, 1) := by decide +kernel
theorem zd217_1 : decode zxm217.2.1 1 = .ok (.getfield 176, 3) := by decide +kernel
theorem zd217_4 : decode zxm217.2.1 4 = .ok (.aload_n 0, 1) := by decide +kernel
theorem zd217_5 : decode zxm217.2.1 5 = .ok (.getfield 179, 3) := by decide +kernel
theorem zd217_8 : decode zxm217.2.1 8 = .ok (.if_icmp .ge 19, 3) := by decide +kernel
theorem zd217_11 : decode zxm217.2.1 11 = .ok (.aload_n 0, 1) := by decide +kernel
theorem zd217_12 : decode zxm217.2.1 12 = .ok (.getfield 19, 3) := by decide +kernel
theorem zd217_15 : decode zxm217.2.1 15 = .ok (.aload_n 0, 1) := by decide +kernel
theorem zd217_16 : decode zxm217.2.1 16 = .ok (.getfield 176, 3) := by decide +kernel
theorem zd217_19 : decode zxm217.2.1 19 = .ok (.baload, 1) := by decide +kernel
theorem zd217_20 : decode zxm217.2.1 20 = .ok (.sipush 255, 3) := by decide +kernel
theorem zd217_23 : decode zxm217.2.1 23 = .ok (.iand, 1) := by decide +kernel
theorem zd217_24 : decode zxm217.2.1 24 = .ok (.goto 4, 3) := by decide +kernel
theorem zd217_27 : decode zxm217.2.1 27 = .ok (.iconst (-1), 1) := by decide +kernel
theorem zd217_28 : decode zxm217.2.1 28 = .ok (.ireturn, 1) := by decide +kernel
theorem zt_M_here {f0 : Int} {f1 : Int} {g0 : (Int → Int)} {o : Int} (h : zf_M_here f0 f1 g0 = some o) : zv_Fn z_TB z_cl z_KX zy_M_here zxm217 (0, 0) [.inr 0] [.inl f0, .inl f1] [g0] (some o) [.inl f0, .inl f1] [g0] := zv_meth (K := (z_KF13, z_KC13, z_KL13, z_KT13, [], [], [], none)) (FT := z_FT) (MT := z_MT) (n := 1) zxp217 (z_ks13 _ (fun _ h => List.mem_cons_of_mem _ h) _ _ _ _ (fun j r h _ => by cases h)) (fun _ _ => zs_KX_p) zyw_M_here (fun va F G h => by obtain ⟨rfl, _⟩ := h; rfl) (fun va F G h => by obtain ⟨rfl, _⟩ := h; rfl) rfl fun good va F G hB hret hvret hP => by
  obtain ⟨rfl, rfl, rfl⟩ := hP
  unfold zf_M_here at h
  refine zv_ald hB zd217_0 rfl rfl rfl ?_
  refine zv_getf hB zd217_1 rfl rfl (fun _ _ => ?_)
  refine zv_ald hB zd217_4 rfl rfl rfl ?_
  refine zv_getf hB zd217_5 rfl rfl (fun _ _ => ?_)
  refine zv_cge hB zd217_8 rfl (fun hc1 => ?_) (fun hc1 => ?_)
  · rw [if_neg (Int.not_lt.mpr hc1)] at h
    refine zv_con hB zd217_27 rfl ?_
    have hw := Option.some.inj h
    subst hw
    exact hret _ _ _ _ _ zd217_28 (by trivial) ⟨rfl, rfl, rfl⟩
  · rw [if_pos hc1] at h
    refine zv_ald hB zd217_11 rfl rfl rfl ?_
    refine zv_getr hB zd217_12 rfl ?_
    refine zv_ald hB zd217_15 rfl rfl rfl ?_
    refine zv_getf hB zd217_16 rfl rfl (fun _ _ => ?_)
    obtain ⟨c2, h⟩ := zi_if h
    refine zv_bald hB zd217_19 rfl rfl (zi_ix_ok c2).1 (zi_ix_ok c2).2 (fun _ _ => ?_)
    refine zv_con hB zd217_20 rfl ?_
    refine zv_andw hB zd217_23 ?_
    refine zv_goto hB zd217_24 rfl ?_
    have hw := Option.some.inj h
    subst hw
    exact hret _ _ _ _ _ zd217_28 (by trivial) ⟨rfl, rfl, rfl⟩
/-! M_isClause (I)Z -/
-- names: 
-- fields: ; arrays: ; out: [('ret', None)]
abbrev zy_M_isClause : zNL := (0, [], [], [], [])
theorem zyw_M_isClause : zv_wf zy_M_isClause = true := by decide +kernel
theorem zye_M_isClause : zv_ek2 zy_M_isClause = true := by decide +kernel
def zf_M_isClause (x0 : Int) : Option (Int) := if x0 = 118 then (some 1) else (if x0 = 106 then (some 1) else (if x0 = 119 then (some 1) else (if x0 = 103 then (some 1) else (if x0 = 113 then (some 1) else (some 0)))))
theorem zd218_0 : decode zxm218.2.1 0 = .ok (.iload_n 0, 1) := by decide +kernel
theorem zd218_1 : decode zxm218.2.1 1 = .ok (.bipush 118, 2) := by decide +kernel
theorem zd218_3 : decode zxm218.2.1 3 = .ok (.if_icmp .eq 27, 3) := by decide +kernel
theorem zd218_6 : decode zxm218.2.1 6 = .ok (.iload_n 0, 1) := by decide +kernel
theorem zd218_7 : decode zxm218.2.1 7 = .ok (.bipush 106, 2) := by decide +kernel
theorem zd218_9 : decode zxm218.2.1 9 = .ok (.if_icmp .eq 21, 3) := by decide +kernel
theorem zd218_12 : decode zxm218.2.1 12 = .ok (.iload_n 0, 1) := by decide +kernel
theorem zd218_13 : decode zxm218.2.1 13 = .ok (.bipush 119, 2) := by decide +kernel
theorem zd218_15 : decode zxm218.2.1 15 = .ok (.if_icmp .eq 15, 3) := by decide +kernel
theorem zd218_18 : decode zxm218.2.1 18 = .ok (.iload_n 0, 1) := by decide +kernel
theorem zd218_19 : decode zxm218.2.1 19 = .ok (.bipush 103, 2) := by decide +kernel
theorem zd218_21 : decode zxm218.2.1 21 = .ok (.if_icmp .eq 9, 3) := by decide +kernel
theorem zd218_24 : decode zxm218.2.1 24 = .ok (.iload_n 0, 1) := by decide +kernel
theorem zd218_25 : decode zxm218.2.1 25 = .ok (.bipush 113, 2) := by decide +kernel
theorem zd218_27 : decode zxm218.2.1 27 = .ok (.if_icmp .ne 7, 3) := by decide +kernel
theorem zd218_30 : decode zxm218.2.1 30 = .ok (.iconst 1, 1) := by decide +kernel
theorem zd218_31 : decode zxm218.2.1 31 = .ok (.goto 4, 3) := by decide +kernel
theorem zd218_34 : decode zxm218.2.1 34 = .ok (.iconst 0, 1) := by decide +kernel
theorem zd218_35 : decode zxm218.2.1 35 = .ok (.ireturn, 1) := by decide +kernel
theorem zt_M_isClause {x0 : Int} {o : Int} (h : zf_M_isClause x0 = some o) : zv_Fn z_TB z_cl z_KX zy_M_isClause zxm218 (0, 0) [.inl x0] [] [] (some o) [] [] := zv_meth (K := (z_KF13, z_KC13, z_KL13, z_KT13, [], [], [], none)) (FT := z_FT) (MT := z_MT) (n := 1) zxp218 (z_ks13 _ (fun _ h => List.mem_cons_of_mem _ h) _ _ _ _ (fun j r h _ => by cases h)) (fun _ _ => zs_KX_p) zyw_M_isClause (fun va F G h => by obtain ⟨rfl, _⟩ := h; rfl) (fun va F G h => by obtain ⟨rfl, _⟩ := h; rfl) rfl fun good va F G hB hret hvret hP => by
  obtain ⟨rfl, rfl, rfl⟩ := hP
  unfold zf_M_isClause at h
  refine zv_ild hB zd218_0 rfl rfl ?_
  refine zv_con hB zd218_1 rfl ?_
  refine zv_ceq hB zd218_3 rfl (fun hc1 => ?_) (fun hc1 => ?_)
  · rw [if_pos hc1] at h
    refine zv_con hB zd218_30 rfl ?_
    refine zv_goto hB zd218_31 rfl ?_
    have hw := Option.some.inj h
    subst hw
    exact hret _ _ _ _ _ zd218_35 (by constructor <;> decide) ⟨rfl, rfl, rfl⟩
  · rw [if_neg hc1] at h
    refine zv_ild hB zd218_6 rfl rfl ?_
    refine zv_con hB zd218_7 rfl ?_
    refine zv_ceq hB zd218_9 rfl (fun hc2 => ?_) (fun hc2 => ?_)
    · rw [if_pos hc2] at h
      refine zv_con hB zd218_30 rfl ?_
      refine zv_goto hB zd218_31 rfl ?_
      have hw := Option.some.inj h
      subst hw
      exact hret _ _ _ _ _ zd218_35 (by constructor <;> decide) ⟨rfl, rfl, rfl⟩
    · rw [if_neg hc2] at h
      refine zv_ild hB zd218_12 rfl rfl ?_
      refine zv_con hB zd218_13 rfl ?_
      refine zv_ceq hB zd218_15 rfl (fun hc3 => ?_) (fun hc3 => ?_)
      · rw [if_pos hc3] at h
        refine zv_con hB zd218_30 rfl ?_
        refine zv_goto hB zd218_31 rfl ?_
        have hw := Option.some.inj h
        subst hw
        exact hret _ _ _ _ _ zd218_35 (by constructor <;> decide) ⟨rfl, rfl, rfl⟩
      · rw [if_neg hc3] at h
        refine zv_ild hB zd218_18 rfl rfl ?_
        refine zv_con hB zd218_19 rfl ?_
        refine zv_ceq hB zd218_21 rfl (fun hc4 => ?_) (fun hc4 => ?_)
        · rw [if_pos hc4] at h
          refine zv_con hB zd218_30 rfl ?_
          refine zv_goto hB zd218_31 rfl ?_
          have hw := Option.some.inj h
          subst hw
          exact hret _ _ _ _ _ zd218_35 (by constructor <;> decide) ⟨rfl, rfl, rfl⟩
        · rw [if_neg hc4] at h
          refine zv_ild hB zd218_24 rfl rfl ?_
          refine zv_con hB zd218_25 rfl ?_
          refine zv_cne hB zd218_27 rfl (fun hc5 => ?_) (fun hc5 => ?_)
          · rw [if_neg hc5] at h
            refine zv_con hB zd218_34 rfl ?_
            have hw := Option.some.inj h
            subst hw
            exact hret _ _ _ _ _ zd218_35 (by constructor <;> decide) ⟨rfl, rfl, rfl⟩
          · rw [if_pos hc5] at h
            refine zv_con hB zd218_30 rfl ?_
            refine zv_goto hB zd218_31 rfl ?_
            have hw := Option.some.inj h
            subst hw
            exact hret _ _ _ _ _ zd218_35 (by constructor <;> decide) ⟨rfl, rfl, rfl⟩
/-! M_wrongAt (II)Z -/
-- names: 0 StarTalesModel('arg', 0)
-- fields: f0 = 0.fault_; arrays: ; out: [('ret', None), ('f', 0)]
abbrev zy_M_wrongAt : zNL := (1, [(0, 12)], [(0, 12, 7, 0)], [], [])
theorem zyw_M_wrongAt : zv_wf zy_M_wrongAt = true := by decide +kernel
theorem zye_M_wrongAt : zv_ek2 zy_M_wrongAt = true := by decide +kernel
def zf_M_wrongAt (x1 : Int) (x2 : Int) (f0 : Int) : Option (Int × Int) := some (0, (zi_w ((zi_w ((-1000) * x1)) - x2)))
theorem zd219_0 : decode zxm219.2.1 0 = .ok (.aload_n 0, 1) := by decide +kernel
theorem zd219_1 : decode zxm219.2.1 1 = .ok (.sipush (-1000), 3) := by decide +kernel
theorem zd219_4 : decode zxm219.2.1 4 = .ok (.iload_n 1, 1) := by decide +kernel
theorem zd219_5 : decode zxm219.2.1 5 = .ok (.imul, 1) := by decide +kernel
theorem zd219_6 : decode zxm219.2.1 6 = .ok (.iload_n 2, 1) := by decide +kernel
theorem zd219_7 : decode zxm219.2.1 7 = .ok (.isub, 1) := by decide +kernel
theorem zd219_8 : decode zxm219.2.1 8 = .ok (.putfield 186, 3) := by decide +kernel
theorem zd219_11 : decode zxm219.2.1 11 = .ok (.iconst 0, 1) := by decide +kernel
theorem zd219_12 : decode zxm219.2.1 12 = .ok (.ireturn, 1) := by decide +kernel
theorem zt_M_wrongAt {x1 : Int} {x2 : Int} {f0 : Int} {o : Int × Int} (h : zf_M_wrongAt x1 x2 f0 = some o) : zv_Fn z_TB z_cl z_KX zy_M_wrongAt zxm219 (0, 0) [.inr 0, .inl x1, .inl x2] [.inl f0] [] (some o.1) [.inl o.2] [] := zv_meth (K := (z_KF13, z_KC13, z_KL13, z_KT13, [], [], [], none)) (FT := z_FT) (MT := z_MT) (n := 3) zxp219 (z_ks13 _ (fun _ h => List.mem_cons_of_mem _ h) _ _ _ _ (fun j r h _ => by cases h)) (fun _ _ => zs_KX_p) zyw_M_wrongAt (fun va F G h => by obtain ⟨rfl, _⟩ := h; rfl) (fun va F G h => by obtain ⟨rfl, _⟩ := h; rfl) rfl fun good va F G hB hret hvret hP => by
  obtain ⟨rfl, rfl, rfl⟩ := hP
  unfold zf_M_wrongAt at h
  refine zv_ald hB zd219_0 rfl rfl rfl ?_
  refine zv_con hB zd219_1 rfl ?_
  refine zv_ild hB zd219_4 rfl rfl ?_
  refine zv_mulw hB zd219_5 ?_
  refine zv_ild hB zd219_6 rfl rfl ?_
  refine zv_subw hB zd219_7 ?_
  refine zv_putf hB zd219_8 rfl rfl (fun h => by cases h) rfl ?_
  refine zv_con hB zd219_11 rfl ?_
  have hw := Option.some.inj h
  subst hw
  exact hret _ _ _ _ _ zd219_12 (by constructor <;> decide) ⟨rfl, rfl, rfl⟩
/-! M_opens (I)Z -/
-- names: 0 StarTalesModel('arg', 0), 1 (0, 220)(0, 12, 15)
-- fields: f0 = 0.open_, f1 = 0.waiting_, f2 = 0.place0_, f3 = 0.fault_; arrays: g0 = 1; out: [('ret', None), ('f', 0), ('f', 1), ('f', 2), ('f', 3), ('g', 0)]
abbrev zy_M_opens : zNL := (2, [(0, 12)], [(0, 12, 8, 0), (0, 12, 10, 1), (0, 12, 5, 2), (0, 12, 7, 3)], [(0, 12, 15, 1)], [(1, 0, 220, 0)])
theorem zyw_M_opens : zv_wf zy_M_opens = true := by decide +kernel
theorem zye_M_opens : zv_ek2 zy_M_opens = true := by decide +kernel
def zf_M_opens (x1 : Int) (f0 : Int) (f1 : Int) (f2 : Int) (f3 : Int) (g0 : (Int → Int)) : Option (Int × Int × Int × Int × Int × (Int → Int)) := if f0 = 6 then ((zf_M_wrongAt 5 f2 f3).bind fun r3 => (cond (zi_bo r3.1) (some (r3.1, f0, f1, f2, r3.2, g0)) none)) else (cond (zi_ix f1 220) (some (1, (zi_w (f0 + 1)), (zi_w (f1 + 1)), (zi_w (f2 + 1)), f3, (zv_up g0 f1 (zi_w (1048576 * x1))))) none)
theorem zd222_0 : decode zxm222.2.1 0 = .ok (.aload_n 0, 1) := by decide +kernel
theorem zd222_1 : decode zxm222.2.1 1 = .ok (.getfield 203, 3) := by decide +kernel
theorem zd222_4 : decode zxm222.2.1 4 = .ok (.bipush 6, 2) := by decide +kernel
theorem zd222_6 : decode zxm222.2.1 6 = .ok (.if_icmp .ne 13, 3) := by decide +kernel
theorem zd222_9 : decode zxm222.2.1 9 = .ok (.aload_n 0, 1) := by decide +kernel
theorem zd222_10 : decode zxm222.2.1 10 = .ok (.iconst 5, 1) := by decide +kernel
theorem zd222_11 : decode zxm222.2.1 11 = .ok (.aload_n 0, 1) := by decide +kernel
theorem zd222_12 : decode zxm222.2.1 12 = .ok (.getfield 176, 3) := by decide +kernel
theorem zd222_15 : decode zxm222.2.1 15 = .ok (.invokevirtual 189, 3) := by decide +kernel
theorem zd222_18 : decode zxm222.2.1 18 = .ok (.ireturn, 1) := by decide +kernel
theorem zd222_19 : decode zxm222.2.1 19 = .ok (.aload_n 0, 1) := by decide +kernel
theorem zd222_20 : decode zxm222.2.1 20 = .ok (.aload_n 0, 1) := by decide +kernel
theorem zd222_21 : decode zxm222.2.1 21 = .ok (.getfield 203, 3) := by decide +kernel
theorem zd222_24 : decode zxm222.2.1 24 = .ok (.iconst 1, 1) := by decide +kernel
theorem zd222_25 : decode zxm222.2.1 25 = .ok (.iadd, 1) := by decide +kernel
theorem zd222_26 : decode zxm222.2.1 26 = .ok (.putfield 203, 3) := by decide +kernel
theorem zd222_29 : decode zxm222.2.1 29 = .ok (.aload_n 0, 1) := by decide +kernel
theorem zd222_30 : decode zxm222.2.1 30 = .ok (.getfield 26, 3) := by decide +kernel
theorem zd222_33 : decode zxm222.2.1 33 = .ok (.aload_n 0, 1) := by decide +kernel
theorem zd222_34 : decode zxm222.2.1 34 = .ok (.getfield 206, 3) := by decide +kernel
theorem zd222_37 : decode zxm222.2.1 37 = .ok (.ldc 202, 2) := by decide +kernel
theorem zd222_39 : decode zxm222.2.1 39 = .ok (.iload_n 1, 1) := by decide +kernel
theorem zd222_40 : decode zxm222.2.1 40 = .ok (.imul, 1) := by decide +kernel
theorem zd222_41 : decode zxm222.2.1 41 = .ok (.iastore, 1) := by decide +kernel
theorem zd222_42 : decode zxm222.2.1 42 = .ok (.aload_n 0, 1) := by decide +kernel
theorem zd222_43 : decode zxm222.2.1 43 = .ok (.aload_n 0, 1) := by decide +kernel
theorem zd222_44 : decode zxm222.2.1 44 = .ok (.getfield 206, 3) := by decide +kernel
theorem zd222_47 : decode zxm222.2.1 47 = .ok (.iconst 1, 1) := by decide +kernel
theorem zd222_48 : decode zxm222.2.1 48 = .ok (.iadd, 1) := by decide +kernel
theorem zd222_49 : decode zxm222.2.1 49 = .ok (.putfield 206, 3) := by decide +kernel
theorem zd222_52 : decode zxm222.2.1 52 = .ok (.aload_n 0, 1) := by decide +kernel
theorem zd222_53 : decode zxm222.2.1 53 = .ok (.aload_n 0, 1) := by decide +kernel
theorem zd222_54 : decode zxm222.2.1 54 = .ok (.getfield 176, 3) := by decide +kernel
theorem zd222_57 : decode zxm222.2.1 57 = .ok (.iconst 1, 1) := by decide +kernel
theorem zd222_58 : decode zxm222.2.1 58 = .ok (.iadd, 1) := by decide +kernel
theorem zd222_59 : decode zxm222.2.1 59 = .ok (.putfield 176, 3) := by decide +kernel
theorem zd222_62 : decode zxm222.2.1 62 = .ok (.iconst 1, 1) := by decide +kernel
theorem zd222_63 : decode zxm222.2.1 63 = .ok (.ireturn, 1) := by decide +kernel
theorem zt_M_opens {x1 : Int} {f0 : Int} {f1 : Int} {f2 : Int} {f3 : Int} {g0 : (Int → Int)} {o : Int × Int × Int × Int × Int × (Int → Int)} (h : zf_M_opens x1 f0 f1 f2 f3 g0 = some o) : zv_Fn z_TB z_cl z_KX zy_M_opens zxm222 (1, 60) [.inr 0, .inl x1] [.inl f0, .inl f1, .inl f2, .inl f3] [g0] (some o.1) [.inl o.2.1, .inl o.2.2.1, .inl o.2.2.2.1, .inl o.2.2.2.2.1] [o.2.2.2.2.2] := zv_meth (K := (z_KF13, z_KC13, z_KL13, z_KT13, [], [], [], none)) (FT := z_FT) (MT := z_MT) (n := 2) zxp222 (z_ks13 _ (fun _ h => List.mem_cons_of_mem _ h) _ _ _ _ (fun j r h _ => by cases h)) (fun _ _ => zs_KX_p) zyw_M_opens (fun va F G h => by obtain ⟨rfl, _⟩ := h; rfl) (fun va F G h => by obtain ⟨rfl, _⟩ := h; rfl) rfl fun good va F G hB hret hvret hP => by
  obtain ⟨rfl, rfl, rfl⟩ := hP
  unfold zf_M_opens at h
  refine zv_ald hB zd222_0 rfl rfl rfl ?_
  refine zv_getf hB zd222_1 rfl rfl (fun _ _ => ?_)
  refine zv_con hB zd222_4 rfl ?_
  refine zv_cne hB zd222_6 rfl (fun hc1 => ?_) (fun hc1 => ?_)
  · rw [if_neg hc1] at h
    refine zv_ald hB zd222_19 rfl rfl rfl ?_
    refine zv_ald hB zd222_20 rfl rfl rfl ?_
    refine zv_getf hB zd222_21 rfl rfl (fun _ _ => ?_)
    refine zv_con hB zd222_24 rfl ?_
    refine zv_addw hB zd222_25 ?_
    refine zv_putf hB zd222_26 rfl rfl (fun h => by cases h) rfl ?_
    refine zv_ald hB zd222_29 rfl rfl rfl ?_
    refine zv_getr hB zd222_30 rfl ?_
    refine zv_ald hB zd222_33 rfl rfl rfl ?_
    refine zv_getf hB zd222_34 rfl rfl (fun _ _ => ?_)
    refine zv_con (n := 1048576) hB zd222_37 (by decide +kernel) ?_
    refine zv_ild hB zd222_39 rfl rfl ?_
    refine zv_mulw hB zd222_40 ?_
    obtain ⟨c2, h⟩ := zi_if h
    refine zv_iast hB zd222_41 rfl rfl (zi_ix_ok c2).1 (zi_ix_ok c2).2 ?_
    refine zv_ald hB zd222_42 rfl rfl rfl ?_
    refine zv_ald hB zd222_43 rfl rfl rfl ?_
    refine zv_getf hB zd222_44 rfl rfl (fun _ _ => ?_)
    refine zv_con hB zd222_47 rfl ?_
    refine zv_addw hB zd222_48 ?_
    refine zv_putf hB zd222_49 rfl rfl (fun h => by cases h) rfl ?_
    refine zv_ald hB zd222_52 rfl rfl rfl ?_
    refine zv_ald hB zd222_53 rfl rfl rfl ?_
    refine zv_getf hB zd222_54 rfl rfl (fun _ _ => ?_)
    refine zv_con hB zd222_57 rfl ?_
    refine zv_addw hB zd222_58 ?_
    refine zv_putf hB zd222_59 rfl rfl (fun h => by cases h) rfl ?_
    refine zv_con hB zd222_62 rfl ?_
    have hw := Option.some.inj h
    subst hw
    exact hret _ _ _ _ _ zd222_63 (by constructor <;> decide) ⟨rfl, rfl, rfl⟩
  · rw [if_pos hc1] at h
    refine zv_ald hB zd222_9 rfl rfl rfl ?_
    refine zv_con hB zd222_10 rfl ?_
    refine zv_ald hB zd222_11 rfl rfl rfl ?_
    refine zv_getf hB zd222_12 rfl rfl (fun _ _ => ?_)
    obtain ⟨r3, hr3, h⟩ := zi_bind h
    refine zv_cv hB (zv_emq (va2 := [.inr 0, .inl 5, .inl f2]) (F := [.inl f0, .inl f1, .inl f2, .inl f3]) (F' := [.inl f0, .inl f1, .inl f2, .inl r3.2]) (G := [g0]) (G' := [g0]) (ρ := [0]) (φ := [3]) (ψ := []) [none, none, none, some 0] [none] zyw_M_wrongAt zyw_M_opens zye_M_opens (by decide +kernel) (zt_M_wrongAt hr3) ⟨⟨_, rfl, fun _ => rfl⟩, trivial⟩ trivial rfl rfl rfl rfl rfl rfl rfl) zd222_15 zxt219 rfl (by decide) (by decide) rfl ?_
    obtain ⟨c4, h⟩ := zi_if h
    have hw := Option.some.inj h
    subst hw
    exact hret _ _ _ _ _ zd222_18 (zi_bo_ok c4) ⟨rfl, rfl, rfl⟩
/-! M_isDigit ()Z -/
-- names: 0 StarTalesModel('arg', 0), 1 (1, 220)(0, 12, 3)
-- fields: f0 = 0.place0_, f1 = 0.length0_; arrays: g0 = 1; out: [('ret', None)]
abbrev zy_M_isDigit : zNL := (2, [(0, 12)], [(0, 12, 5, 0), (0, 12, 6, 1)], [(0, 12, 3, 1)], [(1, 1, 220, 0)])
theorem zyw_M_isDigit : zv_wf zy_M_isDigit = true := by decide +kernel
theorem zye_M_isDigit : zv_ek2 zy_M_isDigit = true := by decide +kernel
def zf_M_isDigit (f0 : Int) (f1 : Int) (g0 : (Int → Int)) : Option (Int) := (zf_M_here f0 f1 g0).bind fun r1 => (if r1 < 48 then (some 0) else ((zf_M_here f0 f1 g0).bind fun r3 => (if 57 < r3 then (some 0) else (some 1))))
theorem zd223_0 : decode zxm223.2.1 0 = .ok (.aload_n 0, 1) := by decide +kernel
theorem zd223_1 : decode zxm223.2.1 1 = .ok (.invokevirtual 182, 3) := by decide +kernel
theorem zd223_4 : decode zxm223.2.1 4 = .ok (.bipush 48, 2) := by decide +kernel
theorem zd223_6 : decode zxm223.2.1 6 = .ok (.if_icmp .lt 16, 3) := by decide +kernel
theorem zd223_9 : decode zxm223.2.1 9 = .ok (.aload_n 0, 1) := by decide +kernel
theorem zd223_10 : decode zxm223.2.1 10 = .ok (.invokevirtual 182, 3) := by decide +kernel
theorem zd223_13 : decode zxm223.2.1 13 = .ok (.bipush 57, 2) := by decide +kernel
theorem zd223_15 : decode zxm223.2.1 15 = .ok (.if_icmp .gt 7, 3) := by decide +kernel
theorem zd223_18 : decode zxm223.2.1 18 = .ok (.iconst 1, 1) := by decide +kernel
theorem zd223_19 : decode zxm223.2.1 19 = .ok (.goto 4, 3) := by decide +kernel
theorem zd223_22 : decode zxm223.2.1 22 = .ok (.iconst 0, 1) := by decide +kernel
theorem zd223_23 : decode zxm223.2.1 23 = .ok (.ireturn, 1) := by decide +kernel
theorem zt_M_isDigit {f0 : Int} {f1 : Int} {g0 : (Int → Int)} {o : Int} (h : zf_M_isDigit f0 f1 g0 = some o) : zv_Fn z_TB z_cl z_KX zy_M_isDigit zxm223 (1, 60) [.inr 0] [.inl f0, .inl f1] [g0] (some o) [.inl f0, .inl f1] [g0] := zv_meth (K := (z_KF13, z_KC13, z_KL13, z_KT13, [], [], [], none)) (FT := z_FT) (MT := z_MT) (n := 1) zxp223 (z_ks13 _ (fun _ h => List.mem_cons_of_mem _ h) _ _ _ _ (fun j r h _ => by cases h)) (fun _ _ => zs_KX_p) zyw_M_isDigit (fun va F G h => by obtain ⟨rfl, _⟩ := h; rfl) (fun va F G h => by obtain ⟨rfl, _⟩ := h; rfl) rfl fun good va F G hB hret hvret hP => by
  obtain ⟨rfl, rfl, rfl⟩ := hP
  unfold zf_M_isDigit at h
  refine zv_ald hB zd223_0 rfl rfl rfl ?_
  obtain ⟨r1, hr1, h⟩ := zi_bind h
  refine zv_cv hB (zv_emq (va2 := [.inr 0]) (F := [.inl f0, .inl f1]) (F' := [.inl f0, .inl f1]) (G := [g0]) (G' := [g0]) (ρ := [0, 1]) (φ := [0, 1]) (ψ := [0]) [some 0, some 1] [some 0] zyw_M_here zyw_M_isDigit zye_M_isDigit (by decide +kernel) (zt_M_here hr1) ⟨⟨_, rfl, fun _ => rfl⟩, ⟨_, rfl, fun _ => rfl⟩, trivial⟩ ⟨rfl, trivial⟩ rfl rfl rfl rfl rfl rfl rfl) zd223_1 zxt217 rfl (by decide) (by decide) rfl ?_
  refine zv_con hB zd223_4 rfl ?_
  refine zv_clt hB zd223_6 rfl (fun hc2 => ?_) (fun hc2 => ?_)
  · rw [if_pos hc2] at h
    refine zv_con hB zd223_22 rfl ?_
    have hw := Option.some.inj h
    subst hw
    exact hret _ _ _ _ _ zd223_23 (by constructor <;> decide) ⟨rfl, rfl, rfl⟩
  · rw [if_neg (Int.not_lt.mpr hc2)] at h
    refine zv_ald hB zd223_9 rfl rfl rfl ?_
    obtain ⟨r3, hr3, h⟩ := zi_bind h
    refine zv_cv hB (zv_emq (va2 := [.inr 0]) (F := [.inl f0, .inl f1]) (F' := [.inl f0, .inl f1]) (G := [g0]) (G' := [g0]) (ρ := [0, 1]) (φ := [0, 1]) (ψ := [0]) [some 0, some 1] [some 0] zyw_M_here zyw_M_isDigit zye_M_isDigit (by decide +kernel) (zt_M_here hr3) ⟨⟨_, rfl, fun _ => rfl⟩, ⟨_, rfl, fun _ => rfl⟩, trivial⟩ ⟨rfl, trivial⟩ rfl rfl rfl rfl rfl rfl rfl) zd223_10 zxt217 rfl (by decide) (by decide) rfl ?_
    refine zv_con hB zd223_13 rfl ?_
    refine zv_cgt hB zd223_15 rfl (fun hc4 => ?_) (fun hc4 => ?_)
    · rw [if_pos hc4] at h
      refine zv_con hB zd223_22 rfl ?_
      have hw := Option.some.inj h
      subst hw
      exact hret _ _ _ _ _ zd223_23 (by constructor <;> decide) ⟨rfl, rfl, rfl⟩
    · rw [if_neg (Int.not_lt.mpr hc4)] at h
      refine zv_con hB zd223_18 rfl ?_
      refine zv_goto hB zd223_19 rfl ?_
      have hw := Option.some.inj h
      subst hw
      exact hret _ _ _ _ _ zd223_23 (by constructor <;> decide) ⟨rfl, rfl, rfl⟩
end
section
/-! Methods as functions, and that they do what these do. -/
/-! M_factOf (I)I -/
-- names: 
-- fields: ; arrays: ; out: [('ret', None)]
abbrev zy_M_factOf : zNL := (0, [], [], [], [])
theorem zyw_M_factOf : zv_wf zy_M_factOf = true := by decide +kernel
theorem zye_M_factOf : zv_ek2 zy_M_factOf = true := by decide +kernel
def zf_M_factOf (x0 : Int) : Option (Int) := if x0 = 99 then (some 5) else (if x0 = 100 then (some 12) else (if x0 = 101 then (some 9) else (if x0 = 102 then (some (-1)) else (if x0 = 103 then (some (-1)) else (if x0 = 104 then (some 0) else (if x0 = 105 then (some 2) else (if x0 = 106 then (some (-1)) else (if x0 = 107 then (some 6) else (if x0 = 108 then (some (-1)) else (if x0 = 109 then (some 3) else (if x0 = 110 then (some 7) else (if x0 = 111 then (some (-1)) else (if x0 = 112 then (some (-1)) else (if x0 = 113 then (some (-1)) else (if x0 = 114 then (some 4) else (if x0 = 115 then (some 8) else (if x0 = 116 then (some (-1)) else (if x0 = 117 then (some 1) else (if x0 = 118 then (some (-1)) else (if x0 = 119 then (some (-1)) else (if x0 = 120 then (some 10) else (if x0 = 121 then (some 11) else (some (-1))))))))))))))))))))))))
theorem zd226_0 : decode zxm226.2.1 0 = .ok (.iload_n 0, 1) := by decide +kernel
theorem zd226_1 : decode zxm226.2.1 1 = .ok (.tableswitch 140 99 121 #[117, 137, 128, 140, 140, 107, 111, 140, 119, 140, 113, 122, 140, 140, 140, 115, 125, 140, 109, 140, 140, 131, 134], 107) := by decide +kernel
theorem zd226_108 : decode zxm226.2.1 108 = .ok (.iconst 0, 1) := by decide +kernel
theorem zd226_109 : decode zxm226.2.1 109 = .ok (.ireturn, 1) := by decide +kernel
theorem zd226_110 : decode zxm226.2.1 110 = .ok (.iconst 1, 1) := by decide +kernel
theorem zd226_111 : decode zxm226.2.1 111 = .ok (.ireturn, 1) := by decide +kernel
theorem zd226_112 : decode zxm226.2.1 112 = .ok (.iconst 2, 1) := by decide +kernel
theorem zd226_113 : decode zxm226.2.1 113 = .ok (.ireturn, 1) := by decide +kernel
theorem zd226_114 : decode zxm226.2.1 114 = .ok (.iconst 3, 1) := by decide +kernel
theorem zd226_115 : decode zxm226.2.1 115 = .ok (.ireturn, 1) := by decide +kernel
theorem zd226_116 : decode zxm226.2.1 116 = .ok (.iconst 4, 1) := by decide +kernel
theorem zd226_117 : decode zxm226.2.1 117 = .ok (.ireturn, 1) := by decide +kernel
theorem zd226_118 : decode zxm226.2.1 118 = .ok (.iconst 5, 1) := by decide +kernel
theorem zd226_119 : decode zxm226.2.1 119 = .ok (.ireturn, 1) := by decide +kernel
theorem zd226_120 : decode zxm226.2.1 120 = .ok (.bipush 6, 2) := by decide +kernel
theorem zd226_122 : decode zxm226.2.1 122 = .ok (.ireturn, 1) := by decide +kernel
theorem zd226_123 : decode zxm226.2.1 123 = .ok (.bipush 7, 2) := by decide +kernel
theorem zd226_125 : decode zxm226.2.1 125 = .ok (.ireturn, 1) := by decide +kernel
theorem zd226_126 : decode zxm226.2.1 126 = .ok (.bipush 8, 2) := by decide +kernel
theorem zd226_128 : decode zxm226.2.1 128 = .ok (.ireturn, 1) := by decide +kernel
theorem zd226_129 : decode zxm226.2.1 129 = .ok (.bipush 9, 2) := by decide +kernel
theorem zd226_131 : decode zxm226.2.1 131 = .ok (.ireturn, 1) := by decide +kernel
theorem zd226_132 : decode zxm226.2.1 132 = .ok (.bipush 10, 2) := by decide +kernel
theorem zd226_134 : decode zxm226.2.1 134 = .ok (.ireturn, 1) := by decide +kernel
theorem zd226_135 : decode zxm226.2.1 135 = .ok (.bipush 11, 2) := by decide +kernel
theorem zd226_137 : decode zxm226.2.1 137 = .ok (.ireturn, 1) := by decide +kernel
theorem zd226_138 : decode zxm226.2.1 138 = .ok (.bipush 12, 2) := by decide +kernel
theorem zd226_140 : decode zxm226.2.1 140 = .ok (.ireturn, 1) := by decide +kernel
theorem zd226_141 : decode zxm226.2.1 141 = .ok (.iconst (-1), 1) := by decide +kernel
theorem zd226_142 : decode zxm226.2.1 142 = .ok (.ireturn, 1) := by decide +kernel
theorem zt_M_factOf {x0 : Int} {o : Int} (h : zf_M_factOf x0 = some o) : zv_Fn z_TB z_cl z_KX zy_M_factOf zxm226 (0, 0) [.inl x0] [] [] (some o) [] [] := zv_meth (K := (z_KF13, z_KC13, z_KL13, z_KT13, [], [], [], none)) (FT := z_FT) (MT := z_MT) (n := 1) zxp226 (z_ks13 _ (fun _ h => List.mem_cons_of_mem _ h) _ _ _ _ (fun j r h _ => by cases h)) (fun _ _ => zs_KX_p) zyw_M_factOf (fun va F G h => by obtain ⟨rfl, _⟩ := h; rfl) (fun va F G h => by obtain ⟨rfl, _⟩ := h; rfl) rfl fun good va F G hB hret hvret hP => by
  obtain ⟨rfl, rfl, rfl⟩ := hP
  unfold zf_M_factOf at h
  refine zv_ild hB zd226_0 rfl rfl ?_
  refine zv_tsw hB zd226_1 rfl ?_
  refine ⟨fun hc1 => ⟨_, rfl, ?_⟩, fun hc1 => ?_⟩
  · replace hc1 : x0 = 99 := hc1
    rw [if_pos hc1] at h
    refine zv_con hB zd226_118 rfl ?_
    have hw := Option.some.inj h
    subst hw
    exact hret _ _ _ _ _ zd226_119 (by trivial) ⟨rfl, rfl, rfl⟩
  replace hc1 : x0 ≠ 99 := hc1
  rw [if_neg hc1] at h
  refine ⟨fun hc2 => ⟨_, rfl, ?_⟩, fun hc2 => ?_⟩
  · replace hc2 : x0 = 100 := hc2
    rw [if_pos hc2] at h
    refine zv_con hB zd226_138 rfl ?_
    have hw := Option.some.inj h
    subst hw
    exact hret _ _ _ _ _ zd226_140 (by trivial) ⟨rfl, rfl, rfl⟩
  replace hc2 : x0 ≠ 100 := hc2
  rw [if_neg hc2] at h
  refine ⟨fun hc3 => ⟨_, rfl, ?_⟩, fun hc3 => ?_⟩
  · replace hc3 : x0 = 101 := hc3
    rw [if_pos hc3] at h
    refine zv_con hB zd226_129 rfl ?_
    have hw := Option.some.inj h
    subst hw
    exact hret _ _ _ _ _ zd226_131 (by trivial) ⟨rfl, rfl, rfl⟩
  replace hc3 : x0 ≠ 101 := hc3
  rw [if_neg hc3] at h
  refine ⟨fun hc4 => ⟨_, rfl, ?_⟩, fun hc4 => ?_⟩
  · replace hc4 : x0 = 102 := hc4
    rw [if_pos hc4] at h
    refine zv_con hB zd226_141 rfl ?_
    have hw := Option.some.inj h
    subst hw
    exact hret _ _ _ _ _ zd226_142 (by trivial) ⟨rfl, rfl, rfl⟩
  replace hc4 : x0 ≠ 102 := hc4
  rw [if_neg hc4] at h
  refine ⟨fun hc5 => ⟨_, rfl, ?_⟩, fun hc5 => ?_⟩
  · replace hc5 : x0 = 103 := hc5
    rw [if_pos hc5] at h
    refine zv_con hB zd226_141 rfl ?_
    have hw := Option.some.inj h
    subst hw
    exact hret _ _ _ _ _ zd226_142 (by trivial) ⟨rfl, rfl, rfl⟩
  replace hc5 : x0 ≠ 103 := hc5
  rw [if_neg hc5] at h
  refine ⟨fun hc6 => ⟨_, rfl, ?_⟩, fun hc6 => ?_⟩
  · replace hc6 : x0 = 104 := hc6
    rw [if_pos hc6] at h
    refine zv_con hB zd226_108 rfl ?_
    have hw := Option.some.inj h
    subst hw
    exact hret _ _ _ _ _ zd226_109 (by trivial) ⟨rfl, rfl, rfl⟩
  replace hc6 : x0 ≠ 104 := hc6
  rw [if_neg hc6] at h
  refine ⟨fun hc7 => ⟨_, rfl, ?_⟩, fun hc7 => ?_⟩
  · replace hc7 : x0 = 105 := hc7
    rw [if_pos hc7] at h
    refine zv_con hB zd226_112 rfl ?_
    have hw := Option.some.inj h
    subst hw
    exact hret _ _ _ _ _ zd226_113 (by trivial) ⟨rfl, rfl, rfl⟩
  replace hc7 : x0 ≠ 105 := hc7
  rw [if_neg hc7] at h
  refine ⟨fun hc8 => ⟨_, rfl, ?_⟩, fun hc8 => ?_⟩
  · replace hc8 : x0 = 106 := hc8
    rw [if_pos hc8] at h
    refine zv_con hB zd226_141 rfl ?_
    have hw := Option.some.inj h
    subst hw
    exact hret _ _ _ _ _ zd226_142 (by trivial) ⟨rfl, rfl, rfl⟩
  replace hc8 : x0 ≠ 106 := hc8
  rw [if_neg hc8] at h
  refine ⟨fun hc9 => ⟨_, rfl, ?_⟩, fun hc9 => ?_⟩
  · replace hc9 : x0 = 107 := hc9
    rw [if_pos hc9] at h
    refine zv_con hB zd226_120 rfl ?_
    have hw := Option.some.inj h
    subst hw
    exact hret _ _ _ _ _ zd226_122 (by trivial) ⟨rfl, rfl, rfl⟩
  replace hc9 : x0 ≠ 107 := hc9
  rw [if_neg hc9] at h
  refine ⟨fun hc10 => ⟨_, rfl, ?_⟩, fun hc10 => ?_⟩
  · replace hc10 : x0 = 108 := hc10
    rw [if_pos hc10] at h
    refine zv_con hB zd226_141 rfl ?_
    have hw := Option.some.inj h
    subst hw
    exact hret _ _ _ _ _ zd226_142 (by trivial) ⟨rfl, rfl, rfl⟩
  replace hc10 : x0 ≠ 108 := hc10
  rw [if_neg hc10] at h
  refine ⟨fun hc11 => ⟨_, rfl, ?_⟩, fun hc11 => ?_⟩
  · replace hc11 : x0 = 109 := hc11
    rw [if_pos hc11] at h
    refine zv_con hB zd226_114 rfl ?_
    have hw := Option.some.inj h
    subst hw
    exact hret _ _ _ _ _ zd226_115 (by trivial) ⟨rfl, rfl, rfl⟩
  replace hc11 : x0 ≠ 109 := hc11
  rw [if_neg hc11] at h
  refine ⟨fun hc12 => ⟨_, rfl, ?_⟩, fun hc12 => ?_⟩
  · replace hc12 : x0 = 110 := hc12
    rw [if_pos hc12] at h
    refine zv_con hB zd226_123 rfl ?_
    have hw := Option.some.inj h
    subst hw
    exact hret _ _ _ _ _ zd226_125 (by trivial) ⟨rfl, rfl, rfl⟩
  replace hc12 : x0 ≠ 110 := hc12
  rw [if_neg hc12] at h
  refine ⟨fun hc13 => ⟨_, rfl, ?_⟩, fun hc13 => ?_⟩
  · replace hc13 : x0 = 111 := hc13
    rw [if_pos hc13] at h
    refine zv_con hB zd226_141 rfl ?_
    have hw := Option.some.inj h
    subst hw
    exact hret _ _ _ _ _ zd226_142 (by trivial) ⟨rfl, rfl, rfl⟩
  replace hc13 : x0 ≠ 111 := hc13
  rw [if_neg hc13] at h
  refine ⟨fun hc14 => ⟨_, rfl, ?_⟩, fun hc14 => ?_⟩
  · replace hc14 : x0 = 112 := hc14
    rw [if_pos hc14] at h
    refine zv_con hB zd226_141 rfl ?_
    have hw := Option.some.inj h
    subst hw
    exact hret _ _ _ _ _ zd226_142 (by trivial) ⟨rfl, rfl, rfl⟩
  replace hc14 : x0 ≠ 112 := hc14
  rw [if_neg hc14] at h
  refine ⟨fun hc15 => ⟨_, rfl, ?_⟩, fun hc15 => ?_⟩
  · replace hc15 : x0 = 113 := hc15
    rw [if_pos hc15] at h
    refine zv_con hB zd226_141 rfl ?_
    have hw := Option.some.inj h
    subst hw
    exact hret _ _ _ _ _ zd226_142 (by trivial) ⟨rfl, rfl, rfl⟩
  replace hc15 : x0 ≠ 113 := hc15
  rw [if_neg hc15] at h
  refine ⟨fun hc16 => ⟨_, rfl, ?_⟩, fun hc16 => ?_⟩
  · replace hc16 : x0 = 114 := hc16
    rw [if_pos hc16] at h
    refine zv_con hB zd226_116 rfl ?_
    have hw := Option.some.inj h
    subst hw
    exact hret _ _ _ _ _ zd226_117 (by trivial) ⟨rfl, rfl, rfl⟩
  replace hc16 : x0 ≠ 114 := hc16
  rw [if_neg hc16] at h
  refine ⟨fun hc17 => ⟨_, rfl, ?_⟩, fun hc17 => ?_⟩
  · replace hc17 : x0 = 115 := hc17
    rw [if_pos hc17] at h
    refine zv_con hB zd226_126 rfl ?_
    have hw := Option.some.inj h
    subst hw
    exact hret _ _ _ _ _ zd226_128 (by trivial) ⟨rfl, rfl, rfl⟩
  replace hc17 : x0 ≠ 115 := hc17
  rw [if_neg hc17] at h
  refine ⟨fun hc18 => ⟨_, rfl, ?_⟩, fun hc18 => ?_⟩
  · replace hc18 : x0 = 116 := hc18
    rw [if_pos hc18] at h
    refine zv_con hB zd226_141 rfl ?_
    have hw := Option.some.inj h
    subst hw
    exact hret _ _ _ _ _ zd226_142 (by trivial) ⟨rfl, rfl, rfl⟩
  replace hc18 : x0 ≠ 116 := hc18
  rw [if_neg hc18] at h
  refine ⟨fun hc19 => ⟨_, rfl, ?_⟩, fun hc19 => ?_⟩
  · replace hc19 : x0 = 117 := hc19
    rw [if_pos hc19] at h
    refine zv_con hB zd226_110 rfl ?_
    have hw := Option.some.inj h
    subst hw
    exact hret _ _ _ _ _ zd226_111 (by trivial) ⟨rfl, rfl, rfl⟩
  replace hc19 : x0 ≠ 117 := hc19
  rw [if_neg hc19] at h
  refine ⟨fun hc20 => ⟨_, rfl, ?_⟩, fun hc20 => ?_⟩
  · replace hc20 : x0 = 118 := hc20
    rw [if_pos hc20] at h
    refine zv_con hB zd226_141 rfl ?_
    have hw := Option.some.inj h
    subst hw
    exact hret _ _ _ _ _ zd226_142 (by trivial) ⟨rfl, rfl, rfl⟩
  replace hc20 : x0 ≠ 118 := hc20
  rw [if_neg hc20] at h
  refine ⟨fun hc21 => ⟨_, rfl, ?_⟩, fun hc21 => ?_⟩
  · replace hc21 : x0 = 119 := hc21
    rw [if_pos hc21] at h
    refine zv_con hB zd226_141 rfl ?_
    have hw := Option.some.inj h
    subst hw
    exact hret _ _ _ _ _ zd226_142 (by trivial) ⟨rfl, rfl, rfl⟩
  replace hc21 : x0 ≠ 119 := hc21
  rw [if_neg hc21] at h
  refine ⟨fun hc22 => ⟨_, rfl, ?_⟩, fun hc22 => ?_⟩
  · replace hc22 : x0 = 120 := hc22
    rw [if_pos hc22] at h
    refine zv_con hB zd226_132 rfl ?_
    have hw := Option.some.inj h
    subst hw
    exact hret _ _ _ _ _ zd226_134 (by trivial) ⟨rfl, rfl, rfl⟩
  replace hc22 : x0 ≠ 120 := hc22
  rw [if_neg hc22] at h
  refine ⟨fun hc23 => ⟨_, rfl, ?_⟩, fun hc23 => ?_⟩
  · replace hc23 : x0 = 121 := hc23
    rw [if_pos hc23] at h
    refine zv_con hB zd226_135 rfl ?_
    have hw := Option.some.inj h
    subst hw
    exact hret _ _ _ _ _ zd226_137 (by trivial) ⟨rfl, rfl, rfl⟩
  replace hc23 : x0 ≠ 121 := hc23
  rw [if_neg hc23] at h
  refine ⟨_, rfl, ?_⟩
  refine zv_con hB zd226_141 rfl ?_
  have hw := Option.some.inj h
  subst hw
  exact hret _ _ _ _ _ zd226_142 (by trivial) ⟨rfl, rfl, rfl⟩
/-! M_notes (II)V -/
-- names: 0 StarTalesModel('arg', 0), 1 (0, 220)(0, 12, 14)
-- fields: f0 = 0.codeMany_; arrays: g0 = 1; out: [('f', 0), ('g', 0)]
abbrev zy_M_notes : zNL := (2, [(0, 12)], [(0, 12, 9, 0)], [(0, 12, 14, 1)], [(1, 0, 220, 0)])
theorem zyw_M_notes : zv_wf zy_M_notes = true := by decide +kernel
theorem zye_M_notes : zv_ek2 zy_M_notes = true := by decide +kernel
def zf_M_notes (x1 : Int) (x2 : Int) (f0 : Int) (g0 : (Int → Int)) : Option (Int × (Int → Int)) := cond (zi_ix f0 220) (some ((zi_w (f0 + 1)), (zv_up g0 f0 (zi_w ((zi_w (1048576 * x1)) + x2))))) none
theorem zd225_0 : decode zxm225.2.1 0 = .ok (.aload_n 0, 1) := by decide +kernel
theorem zd225_1 : decode zxm225.2.1 1 = .ok (.getfield 23, 3) := by decide +kernel
theorem zd225_4 : decode zxm225.2.1 4 = .ok (.aload_n 0, 1) := by decide +kernel
theorem zd225_5 : decode zxm225.2.1 5 = .ok (.getfield 199, 3) := by decide +kernel
theorem zd225_8 : decode zxm225.2.1 8 = .ok (.ldc 202, 2) := by decide +kernel
theorem zd225_10 : decode zxm225.2.1 10 = .ok (.iload_n 1, 1) := by decide +kernel
theorem zd225_11 : decode zxm225.2.1 11 = .ok (.imul, 1) := by decide +kernel
theorem zd225_12 : decode zxm225.2.1 12 = .ok (.iload_n 2, 1) := by decide +kernel
theorem zd225_13 : decode zxm225.2.1 13 = .ok (.iadd, 1) := by decide +kernel
theorem zd225_14 : decode zxm225.2.1 14 = .ok (.iastore, 1) := by decide +kernel
theorem zd225_15 : decode zxm225.2.1 15 = .ok (.aload_n 0, 1) := by decide +kernel
theorem zd225_16 : decode zxm225.2.1 16 = .ok (.aload_n 0, 1) := by decide +kernel
theorem zd225_17 : decode zxm225.2.1 17 = .ok (.getfield 199, 3) := by decide +kernel
theorem zd225_20 : decode zxm225.2.1 20 = .ok (.iconst 1, 1) := by decide +kernel
theorem zd225_21 : decode zxm225.2.1 21 = .ok (.iadd, 1) := by decide +kernel
theorem zd225_22 : decode zxm225.2.1 22 = .ok (.putfield 199, 3) := by decide +kernel
theorem zd225_25 : decode zxm225.2.1 25 = .ok (.return_, 1) := by decide +kernel
theorem zt_M_notes {x1 : Int} {x2 : Int} {f0 : Int} {g0 : (Int → Int)} {o : Int × (Int → Int)} (h : zf_M_notes x1 x2 f0 g0 = some o) : zv_Fn z_TB z_cl z_KX zy_M_notes zxm225 (0, 0) [.inr 0, .inl x1, .inl x2] [.inl f0] [g0] none [.inl o.1] [o.2] := zv_meth (K := (z_KF13, z_KC13, z_KL13, z_KT13, [], [], [], none)) (FT := z_FT) (MT := z_MT) (n := 3) zxp225 (z_ks13 _ (fun _ h => List.mem_cons_of_mem _ h) _ _ _ _ (fun j r h _ => by cases h)) (fun _ _ => zs_KX_p) zyw_M_notes (fun va F G h => by obtain ⟨rfl, _⟩ := h; rfl) (fun va F G h => by obtain ⟨rfl, _⟩ := h; rfl) rfl fun good va F G hB hret hvret hP => by
  obtain ⟨rfl, rfl, rfl⟩ := hP
  unfold zf_M_notes at h
  refine zv_ald hB zd225_0 rfl rfl rfl ?_
  refine zv_getr hB zd225_1 rfl ?_
  refine zv_ald hB zd225_4 rfl rfl rfl ?_
  refine zv_getf hB zd225_5 rfl rfl (fun _ _ => ?_)
  refine zv_con (n := 1048576) hB zd225_8 (by decide +kernel) ?_
  refine zv_ild hB zd225_10 rfl rfl ?_
  refine zv_mulw hB zd225_11 ?_
  refine zv_ild hB zd225_12 rfl rfl ?_
  refine zv_addw hB zd225_13 ?_
  obtain ⟨c1, h⟩ := zi_if h
  refine zv_iast hB zd225_14 rfl rfl (zi_ix_ok c1).1 (zi_ix_ok c1).2 ?_
  refine zv_ald hB zd225_15 rfl rfl rfl ?_
  refine zv_ald hB zd225_16 rfl rfl rfl ?_
  refine zv_getf hB zd225_17 rfl rfl (fun _ _ => ?_)
  refine zv_con hB zd225_20 rfl ?_
  refine zv_addw hB zd225_21 ?_
  refine zv_putf hB zd225_22 rfl rfl (fun h => by cases h) rfl ?_
  have hw := Option.some.inj h
  subst hw
  exact hvret _ _ _ _ zd225_25 trivial ⟨rfl, rfl, rfl⟩
/-! M_readsNumber ()Z -/
-- names: 0 StarTalesModel('arg', 0), 1 (1, 220)(0, 12, 3)
-- fields: f0 = 0.place0_, f1 = 0.number0_, f2 = 0.length0_, f3 = 0.fault_; arrays: g0 = 1; out: [('ret', None), ('f', 0), ('f', 1), ('f', 3)]
abbrev zy_M_readsNumber : zNL := (2, [(0, 12)], [(0, 12, 5, 0), (0, 12, 12, 1), (0, 12, 6, 2), (0, 12, 7, 3)], [(0, 12, 3, 1)], [(1, 1, 220, 0)])
theorem zyw_M_readsNumber : zv_wf zy_M_readsNumber = true := by decide +kernel
theorem zye_M_readsNumber : zv_ek2 zy_M_readsNumber = true := by decide +kernel
def zf_M_readsNumber_l0_b (x1 : Int) (f2 : Int) (f3 : Int) (g0 : (Int → Int)) (rec : Int → Int → Option (((Int × Int) ⊕ (Int × Int × Int × Int)))) (f0 : Int) (f1 : Int) : Option (((Int × Int) ⊕ (Int × Int × Int × Int))) := (zf_M_isDigit f0 f2 g0).bind fun r1 => (if r1 = 0 then (some (.inl (f0, f1))) else (if f0 = (zi_w (x1 + 5)) then ((zf_M_wrongAt 2 f0 f3).bind fun r5 => (cond (zi_bo r5.1) (some (.inr (r5.1, f0, f1, r5.2))) none)) else ((zf_M_here f0 f2 g0).bind fun r4 => (rec (zi_w (f0 + 1)) (zi_w ((zi_w ((zi_w (10 * f1)) + r4)) - 48))))))
def zf_M_readsNumber_l0 (x1 : Int) (f2 : Int) (f3 : Int) (g0 : (Int → Int)) : Nat → Int → Int → Option (((Int × Int) ⊕ (Int × Int × Int × Int)))
  | 0, _, _ => none
  | n + 1, f0, f1 => zf_M_readsNumber_l0_b x1 f2 f3 g0 (zf_M_readsNumber_l0 x1 f2 f3 g0 n) f0 f1
def zf_M_readsNumber (f0 : Int) (f1 : Int) (f2 : Int) (f3 : Int) (g0 : (Int → Int)) : Option (Int × Int × Int × Int) := (zf_M_readsNumber_l0 f0 f2 f3 g0 zi_fu f0 0).bind fun q7 => Sum.elim (fun e8 => (some (1, e8.1, e8.2, f3))) (fun w9 => some w9) q7
theorem zd224_0 : decode zxm224.2.1 0 = .ok (.aload_n 0, 1) := by decide +kernel
theorem zd224_1 : decode zxm224.2.1 1 = .ok (.getfield 176, 3) := by decide +kernel
theorem zd224_4 : decode zxm224.2.1 4 = .ok (.istore_n 1, 1) := by decide +kernel
theorem zd224_5 : decode zxm224.2.1 5 = .ok (.aload_n 0, 1) := by decide +kernel
theorem zd224_6 : decode zxm224.2.1 6 = .ok (.iconst 0, 1) := by decide +kernel
theorem zd224_7 : decode zxm224.2.1 7 = .ok (.putfield 192, 3) := by decide +kernel
theorem zd224_10 : decode zxm224.2.1 10 = .ok (.aload_n 0, 1) := by decide +kernel
theorem zd224_11 : decode zxm224.2.1 11 = .ok (.invokevirtual 195, 3) := by decide +kernel
theorem zd224_14 : decode zxm224.2.1 14 = .ok (.ifCond .eq 55, 3) := by decide +kernel
theorem zd224_17 : decode zxm224.2.1 17 = .ok (.aload_n 0, 1) := by decide +kernel
theorem zd224_18 : decode zxm224.2.1 18 = .ok (.getfield 176, 3) := by decide +kernel
theorem zd224_21 : decode zxm224.2.1 21 = .ok (.iload_n 1, 1) := by decide +kernel
theorem zd224_22 : decode zxm224.2.1 22 = .ok (.iconst 5, 1) := by decide +kernel
theorem zd224_23 : decode zxm224.2.1 23 = .ok (.iadd, 1) := by decide +kernel
theorem zd224_24 : decode zxm224.2.1 24 = .ok (.if_icmp .ne 13, 3) := by decide +kernel
theorem zd224_27 : decode zxm224.2.1 27 = .ok (.aload_n 0, 1) := by decide +kernel
theorem zd224_28 : decode zxm224.2.1 28 = .ok (.iconst 2, 1) := by decide +kernel
theorem zd224_29 : decode zxm224.2.1 29 = .ok (.aload_n 0, 1) := by decide +kernel
theorem zd224_30 : decode zxm224.2.1 30 = .ok (.getfield 176, 3) := by decide +kernel
theorem zd224_33 : decode zxm224.2.1 33 = .ok (.invokevirtual 189, 3) := by decide +kernel
theorem zd224_36 : decode zxm224.2.1 36 = .ok (.ireturn, 1) := by decide +kernel
theorem zd224_37 : decode zxm224.2.1 37 = .ok (.aload_n 0, 1) := by decide +kernel
theorem zd224_38 : decode zxm224.2.1 38 = .ok (.bipush 10, 2) := by decide +kernel
theorem zd224_40 : decode zxm224.2.1 40 = .ok (.aload_n 0, 1) := by decide +kernel
theorem zd224_41 : decode zxm224.2.1 41 = .ok (.getfield 192, 3) := by decide +kernel
theorem zd224_44 : decode zxm224.2.1 44 = .ok (.imul, 1) := by decide +kernel
theorem zd224_45 : decode zxm224.2.1 45 = .ok (.aload_n 0, 1) := by decide +kernel
theorem zd224_46 : decode zxm224.2.1 46 = .ok (.invokevirtual 182, 3) := by decide +kernel
theorem zd224_49 : decode zxm224.2.1 49 = .ok (.iadd, 1) := by decide +kernel
theorem zd224_50 : decode zxm224.2.1 50 = .ok (.bipush 48, 2) := by decide +kernel
theorem zd224_52 : decode zxm224.2.1 52 = .ok (.isub, 1) := by decide +kernel
theorem zd224_53 : decode zxm224.2.1 53 = .ok (.putfield 192, 3) := by decide +kernel
theorem zd224_56 : decode zxm224.2.1 56 = .ok (.aload_n 0, 1) := by decide +kernel
theorem zd224_57 : decode zxm224.2.1 57 = .ok (.aload_n 0, 1) := by decide +kernel
theorem zd224_58 : decode zxm224.2.1 58 = .ok (.getfield 176, 3) := by decide +kernel
theorem zd224_61 : decode zxm224.2.1 61 = .ok (.iconst 1, 1) := by decide +kernel
theorem zd224_62 : decode zxm224.2.1 62 = .ok (.iadd, 1) := by decide +kernel
theorem zd224_63 : decode zxm224.2.1 63 = .ok (.putfield 176, 3) := by decide +kernel
theorem zd224_66 : decode zxm224.2.1 66 = .ok (.goto (-56), 3) := by decide +kernel
theorem zd224_69 : decode zxm224.2.1 69 = .ok (.iconst 1, 1) := by decide +kernel
theorem zd224_70 : decode zxm224.2.1 70 = .ok (.ireturn, 1) := by decide +kernel
theorem zt_M_readsNumber {f0 : Int} {f1 : Int} {f2 : Int} {f3 : Int} {g0 : (Int → Int)} {o : Int × Int × Int × Int} (h : zf_M_readsNumber f0 f1 f2 f3 g0 = some o) : zv_Fn z_TB z_cl z_KX zy_M_readsNumber zxm224 (2, 120) [.inr 0] [.inl f0, .inl f1, .inl f2, .inl f3] [g0] (some o.1) [.inl o.2.1, .inl o.2.2.1, .inl f2, .inl o.2.2.2] [g0] := zv_meth (K := (z_KF13, z_KC13, z_KL13, z_KT13, [], [], [], none)) (FT := z_FT) (MT := z_MT) (n := 1) zxp224 (z_ks13 _ (fun _ h => List.mem_cons_of_mem _ h) _ _ _ _ (fun j r h _ => by cases h)) (fun _ _ => zs_KX_p) zyw_M_readsNumber (fun va F G h => by obtain ⟨rfl, _⟩ := h; rfl) (fun va F G h => by obtain ⟨rfl, _⟩ := h; rfl) rfl fun good va F G hB hret hvret hP => by
  obtain ⟨rfl, rfl, rfl⟩ := hP
  have l0 : ∀ (n : Nat) (x1 : Int) (f0 : Int) (f1 : Int) (f3 : Int) (q : ((Int × Int) ⊕ (Int × Int × Int × Int))), zf_M_readsNumber_l0 x1 f2 f3 g0 n f0 f1 = some q → (Sum.elim (fun e : Int × Int => good 69 [.inr 1000, .inr 1000] [] [.inl e.1, .inl e.2, .inl f2, .inl f3] [g0]) (fun w : Int × Int × Int × Int => w = o) q) → good 10 [.inr 0, .inl x1] [] [.inl f0, .inl f1, .inl f2, .inl f3] [g0] := by
    intro n
    induction n with
    | zero => intro x1 f0 f1 f3 q h; exact absurd (show none = some q from h) (fun h => by cases h)
    | succ n ih =>
      intro x1 f0 f1 f3 q h hK
      replace h : zf_M_readsNumber_l0_b x1 f2 f3 g0 (zf_M_readsNumber_l0 x1 f2 f3 g0 n) f0 f1 = some q := h
      unfold zf_M_readsNumber_l0_b at h
      refine zv_ald hB zd224_10 rfl rfl rfl ?_
      obtain ⟨r1, hr1, h⟩ := zi_bind h
      refine zv_cv hB (zv_emq (va2 := [.inr 0]) (F := [.inl f0, .inl f1, .inl f2, .inl f3]) (F' := [.inl f0, .inl f1, .inl f2, .inl f3]) (G := [g0]) (G' := [g0]) (ρ := [0, 1]) (φ := [0, 2]) (ψ := [0]) [some 0, none, some 1, none] [some 0] zyw_M_isDigit zyw_M_readsNumber zye_M_readsNumber (by decide +kernel) (zt_M_isDigit hr1) ⟨⟨_, rfl, fun _ => rfl⟩, ⟨_, rfl, fun _ => rfl⟩, trivial⟩ ⟨rfl, trivial⟩ rfl rfl rfl rfl rfl rfl rfl) zd224_11 zxt223 rfl (by decide) (by decide) rfl ?_
      refine zv_zeq hB zd224_14 rfl (fun hc2 => ?_) (fun hc2 => ?_)
      · rw [if_pos hc2] at h
        have hq := Option.some.inj h
        subst hq
        refine zv_wk hB (L' := [.inr 1000, .inr 1000]) (F' := [.inl f0, .inl f1, .inl f2, .inl f3]) ⟨fun (h : zv_is (.inr 1000)) => (Nat.lt_irrefl 1000 h).elim, fun (h : zv_is (.inr 1000)) => (Nat.lt_irrefl 1000 h).elim, trivial⟩ ⟨fun _ => rfl, fun _ => rfl, fun _ => rfl, fun _ => rfl, trivial⟩ ?_
        exact hK
      · rw [if_neg hc2] at h
        refine zv_ald hB zd224_17 rfl rfl rfl ?_
        refine zv_getf hB zd224_18 rfl rfl (fun _ _ => ?_)
        refine zv_ild hB zd224_21 rfl rfl ?_
        refine zv_con hB zd224_22 rfl ?_
        refine zv_addw hB zd224_23 ?_
        refine zv_cne hB zd224_24 rfl (fun hc3 => ?_) (fun hc3 => ?_)
        · rw [if_neg hc3] at h
          refine zv_ald hB zd224_37 rfl rfl rfl ?_
          refine zv_con hB zd224_38 rfl ?_
          refine zv_ald hB zd224_40 rfl rfl rfl ?_
          refine zv_getf hB zd224_41 rfl rfl (fun _ _ => ?_)
          refine zv_mulw hB zd224_44 ?_
          refine zv_ald hB zd224_45 rfl rfl rfl ?_
          obtain ⟨r4, hr4, h⟩ := zi_bind h
          refine zv_cv hB (zv_emq (va2 := [.inr 0]) (F := [.inl f0, .inl f1, .inl f2, .inl f3]) (F' := [.inl f0, .inl f1, .inl f2, .inl f3]) (G := [g0]) (G' := [g0]) (ρ := [0, 1]) (φ := [0, 2]) (ψ := [0]) [some 0, none, some 1, none] [some 0] zyw_M_here zyw_M_readsNumber zye_M_readsNumber (by decide +kernel) (zt_M_here hr4) ⟨⟨_, rfl, fun _ => rfl⟩, ⟨_, rfl, fun _ => rfl⟩, trivial⟩ ⟨rfl, trivial⟩ rfl rfl rfl rfl rfl rfl rfl) zd224_46 zxt217 rfl (by decide) (by decide) rfl ?_
          refine zv_addw hB zd224_49 ?_
          refine zv_con hB zd224_50 rfl ?_
          refine zv_subw hB zd224_52 ?_
          refine zv_putf hB zd224_53 rfl rfl (fun h => by cases h) rfl ?_
          refine zv_ald hB zd224_56 rfl rfl rfl ?_
          refine zv_ald hB zd224_57 rfl rfl rfl ?_
          refine zv_getf hB zd224_58 rfl rfl (fun _ _ => ?_)
          refine zv_con hB zd224_61 rfl ?_
          refine zv_addw hB zd224_62 ?_
          refine zv_putf hB zd224_63 rfl rfl (fun h => by cases h) rfl ?_
          refine zv_goto hB zd224_66 rfl ?_
          exact ih _ _ _ _ q h hK
        · rw [if_pos hc3] at h
          refine zv_ald hB zd224_27 rfl rfl rfl ?_
          refine zv_con hB zd224_28 rfl ?_
          refine zv_ald hB zd224_29 rfl rfl rfl ?_
          refine zv_getf hB zd224_30 rfl rfl (fun _ _ => ?_)
          obtain ⟨r5, hr5, h⟩ := zi_bind h
          refine zv_cv hB (zv_emq (va2 := [.inr 0, .inl 2, .inl f0]) (F := [.inl f0, .inl f1, .inl f2, .inl f3]) (F' := [.inl f0, .inl f1, .inl f2, .inl r5.2]) (G := [g0]) (G' := [g0]) (ρ := [0]) (φ := [3]) (ψ := []) [none, none, none, some 0] [none] zyw_M_wrongAt zyw_M_readsNumber zye_M_readsNumber (by decide +kernel) (zt_M_wrongAt hr5) ⟨⟨_, rfl, fun _ => rfl⟩, trivial⟩ trivial rfl rfl rfl rfl rfl rfl rfl) zd224_33 zxt219 rfl (by decide) (by decide) rfl ?_
          obtain ⟨c6, h⟩ := zi_if h
          have hw : (r5.1, f0, f1, r5.2) = o := zi_rk (Option.some.inj h) hK
          subst hw
          exact hret _ _ _ _ _ zd224_36 (zi_bo_ok c6) ⟨rfl, rfl, rfl⟩
  unfold zf_M_readsNumber at h
  refine zv_ald hB zd224_0 rfl rfl rfl ?_
  refine zv_getf hB zd224_1 rfl rfl (fun _ _ => ?_)
  refine zv_ist hB zd224_4 rfl rfl rfl ?_
  refine zv_ald hB zd224_5 rfl rfl rfl ?_
  refine zv_con hB zd224_6 rfl ?_
  refine zv_putf hB zd224_7 rfl rfl (fun h => by cases h) rfl ?_
  obtain ⟨q7, hq7, h⟩ := zi_bind h
  refine l0 _ _ _ _ _ q7 hq7 ?_
  rcases q7 with e8 | w9
  · replace h := zi_sl h
    show good 69 [.inr 1000, .inr 1000] [] [.inl e8.1, .inl e8.2, .inl f2, .inl f3] [g0]
    refine zv_con hB zd224_69 rfl ?_
    have hw := Option.some.inj h
    subst hw
    exact hret _ _ _ _ _ zd224_70 (by constructor <;> decide) ⟨rfl, rfl, rfl⟩
  · exact Option.some.inj h
/-! M_readsFactor ()Z -/
-- names: 0 StarTalesModel('arg', 0), 1 (1, 220)(0, 12, 3), 2 (0, 220)(0, 12, 15), 3 (0, 220)(0, 12, 14)
-- fields: f0 = 0.place0_, f1 = 0.length0_, f2 = 0.open_, f3 = 0.waiting_, f4 = 0.fault_, f5 = 0.codeMany_, f6 = 0.number0_; arrays: g0 = 1, g1 = 2, g2 = 3; out: [('ret', None), ('f', 0), ('f', 2), ('f', 3), ('f', 4), ('f', 5), ('f', 6), ('g', 1), ('g', 2)]
abbrev zy_M_readsFactor : zNL := (4, [(0, 12)], [(0, 12, 5, 0), (0, 12, 6, 1), (0, 12, 8, 2), (0, 12, 10, 3), (0, 12, 7, 4), (0, 12, 9, 5), (0, 12, 12, 6)], [(0, 12, 3, 1), (0, 12, 15, 2), (0, 12, 14, 3)], [(1, 1, 220, 0), (2, 0, 220, 1), (3, 0, 220, 2)])
theorem zyw_M_readsFactor : zv_wf zy_M_readsFactor = true := by decide +kernel
theorem zye_M_readsFactor : zv_ek2 zy_M_readsFactor = true := by decide +kernel
def zf_M_readsFactor_l0_b (f1 : Int) (f5 : Int) (f6 : Int) (g0 : (Int → Int)) (g2 : (Int → Int)) (rec : Int → Int → Int → Int → (Int → Int) → Option (((Int × Int × Int × Int × (Int → Int)) ⊕ (Int × Int × Int × Int × Int × Int × Int × (Int → Int) × (Int → Int))))) (f0 : Int) (f2 : Int) (f3 : Int) (f4 : Int) (g1 : (Int → Int)) : Option (((Int × Int × Int × Int × (Int → Int)) ⊕ (Int × Int × Int × Int × Int × Int × Int × (Int → Int) × (Int → Int)))) := (zf_M_here f0 f1 g0).bind fun r1 => (if r1 = 91 then ((zf_M_opens 14 f2 f3 f0 f4 g1).bind fun r3 => (if r3.1 = 0 then (some (.inr (0, r3.2.2.2.1, r3.2.1, r3.2.2.1, r3.2.2.2.2.1, f5, f6, r3.2.2.2.2.2, g2))) else (rec r3.2.2.2.1 r3.2.1 r3.2.2.1 r3.2.2.2.2.1 r3.2.2.2.2.2))) else (some (.inl (f0, f2, f3, f4, g1))))
def zf_M_readsFactor_l0 (f1 : Int) (f5 : Int) (f6 : Int) (g0 : (Int → Int)) (g2 : (Int → Int)) : Nat → Int → Int → Int → Int → (Int → Int) → Option (((Int × Int × Int × Int × (Int → Int)) ⊕ (Int × Int × Int × Int × Int × Int × Int × (Int → Int) × (Int → Int))))
  | 0, _, _, _, _, _ => none
  | n + 1, f0, f2, f3, f4, g1 => zf_M_readsFactor_l0_b f1 f5 f6 g0 g2 (zf_M_readsFactor_l0 f1 f5 f6 g0 g2 n) f0 f2 f3 f4 g1
def zf_M_readsFactor (f0 : Int) (f1 : Int) (f2 : Int) (f3 : Int) (f4 : Int) (f5 : Int) (f6 : Int) (g0 : (Int → Int)) (g1 : (Int → Int)) (g2 : (Int → Int)) : Option (Int × Int × Int × Int × Int × Int × Int × (Int → Int) × (Int → Int)) := (zf_M_readsFactor_l0 f1 f5 f6 g0 g2 zi_fu f0 f2 f3 f4 g1).bind fun q5 => Sum.elim (fun e6 => ((zf_M_isDigit e6.1 f1 g0).bind fun r7 => (if r7 = 0 then ((zf_M_here e6.1 f1 g0).bind fun r9 => ((zf_M_factOf r9).bind fun r10 => (if r10 = (-1) then ((zf_M_wrongAt 1 e6.1 e6.2.2.2.1).bind fun r13 => (cond (zi_bo r13.1) (some (r13.1, e6.1, e6.2.1, e6.2.2.1, r13.2, f5, f6, e6.2.2.2.2, g2)) none)) else ((zf_M_notes 1 r10 f5 g2).bind fun r12 => (some (1, (zi_w (e6.1 + 1)), e6.2.1, e6.2.2.1, e6.2.2.2.1, r12.1, f6, e6.2.2.2.2, r12.2)))))) else ((zf_M_readsNumber e6.1 f6 f1 e6.2.2.2.1 g0).bind fun r15 => (if r15.1 = 0 then (some (0, r15.2.1, e6.2.1, e6.2.2.1, r15.2.2.2, f5, r15.2.2.1, e6.2.2.2.2, g2)) else ((zf_M_notes 0 r15.2.2.1 f5 g2).bind fun r17 => (some (1, r15.2.1, e6.2.1, e6.2.2.1, r15.2.2.2, r17.1, r15.2.2.1, e6.2.2.2.2, r17.2)))))))) (fun w18 => some w18) q5
theorem zd221_0 : decode zxm221.2.1 0 = .ok (.aload_n 0, 1) := by decide +kernel
theorem zd221_1 : decode zxm221.2.1 1 = .ok (.invokevirtual 182, 3) := by decide +kernel
theorem zd221_4 : decode zxm221.2.1 4 = .ok (.bipush 91, 2) := by decide +kernel
theorem zd221_6 : decode zxm221.2.1 6 = .ok (.if_icmp .ne 14, 3) := by decide +kernel
theorem zd221_9 : decode zxm221.2.1 9 = .ok (.aload_n 0, 1) := by decide +kernel
theorem zd221_10 : decode zxm221.2.1 10 = .ok (.bipush 14, 2) := by decide +kernel
theorem zd221_12 : decode zxm221.2.1 12 = .ok (.invokevirtual 216, 3) := by decide +kernel
theorem zd221_15 : decode zxm221.2.1 15 = .ok (.ifCond .ne (-15), 3) := by decide +kernel
theorem zd221_18 : decode zxm221.2.1 18 = .ok (.iconst 0, 1) := by decide +kernel
theorem zd221_19 : decode zxm221.2.1 19 = .ok (.ireturn, 1) := by decide +kernel
theorem zd221_20 : decode zxm221.2.1 20 = .ok (.aload_n 0, 1) := by decide +kernel
theorem zd221_21 : decode zxm221.2.1 21 = .ok (.invokevirtual 195, 3) := by decide +kernel
theorem zd221_24 : decode zxm221.2.1 24 = .ok (.ifCond .eq 23, 3) := by decide +kernel
theorem zd221_27 : decode zxm221.2.1 27 = .ok (.aload_n 0, 1) := by decide +kernel
theorem zd221_28 : decode zxm221.2.1 28 = .ok (.invokevirtual 219, 3) := by decide +kernel
theorem zd221_31 : decode zxm221.2.1 31 = .ok (.ifCond .ne 5, 3) := by decide +kernel
theorem zd221_34 : decode zxm221.2.1 34 = .ok (.iconst 0, 1) := by decide +kernel
theorem zd221_35 : decode zxm221.2.1 35 = .ok (.ireturn, 1) := by decide +kernel
theorem zd221_36 : decode zxm221.2.1 36 = .ok (.aload_n 0, 1) := by decide +kernel
theorem zd221_37 : decode zxm221.2.1 37 = .ok (.iconst 0, 1) := by decide +kernel
theorem zd221_38 : decode zxm221.2.1 38 = .ok (.aload_n 0, 1) := by decide +kernel
theorem zd221_39 : decode zxm221.2.1 39 = .ok (.getfield 192, 3) := by decide +kernel
theorem zd221_42 : decode zxm221.2.1 42 = .ok (.invokevirtual 212, 3) := by decide +kernel
theorem zd221_45 : decode zxm221.2.1 45 = .ok (.iconst 1, 1) := by decide +kernel
theorem zd221_46 : decode zxm221.2.1 46 = .ok (.ireturn, 1) := by decide +kernel
theorem zd221_47 : decode zxm221.2.1 47 = .ok (.aload_n 0, 1) := by decide +kernel
theorem zd221_48 : decode zxm221.2.1 48 = .ok (.invokevirtual 182, 3) := by decide +kernel
theorem zd221_51 : decode zxm221.2.1 51 = .ok (.invokestatic 222, 3) := by decide +kernel
theorem zd221_54 : decode zxm221.2.1 54 = .ok (.istore_n 1, 1) := by decide +kernel
theorem zd221_55 : decode zxm221.2.1 55 = .ok (.iload_n 1, 1) := by decide +kernel
theorem zd221_56 : decode zxm221.2.1 56 = .ok (.iconst (-1), 1) := by decide +kernel
theorem zd221_57 : decode zxm221.2.1 57 = .ok (.if_icmp .ne 13, 3) := by decide +kernel
theorem zd221_60 : decode zxm221.2.1 60 = .ok (.aload_n 0, 1) := by decide +kernel
theorem zd221_61 : decode zxm221.2.1 61 = .ok (.iconst 1, 1) := by decide +kernel
theorem zd221_62 : decode zxm221.2.1 62 = .ok (.aload_n 0, 1) := by decide +kernel
theorem zd221_63 : decode zxm221.2.1 63 = .ok (.getfield 176, 3) := by decide +kernel
theorem zd221_66 : decode zxm221.2.1 66 = .ok (.invokevirtual 189, 3) := by decide +kernel
theorem zd221_69 : decode zxm221.2.1 69 = .ok (.ireturn, 1) := by decide +kernel
theorem zd221_70 : decode zxm221.2.1 70 = .ok (.aload_n 0, 1) := by decide +kernel
theorem zd221_71 : decode zxm221.2.1 71 = .ok (.iconst 1, 1) := by decide +kernel
theorem zd221_72 : decode zxm221.2.1 72 = .ok (.iload_n 1, 1) := by decide +kernel
theorem zd221_73 : decode zxm221.2.1 73 = .ok (.invokevirtual 212, 3) := by decide +kernel
theorem zd221_76 : decode zxm221.2.1 76 = .ok (.aload_n 0, 1) := by decide +kernel
theorem zd221_77 : decode zxm221.2.1 77 = .ok (.aload_n 0, 1) := by decide +kernel
theorem zd221_78 : decode zxm221.2.1 78 = .ok (.getfield 176, 3) := by decide +kernel
theorem zd221_81 : decode zxm221.2.1 81 = .ok (.iconst 1, 1) := by decide +kernel
theorem zd221_82 : decode zxm221.2.1 82 = .ok (.iadd, 1) := by decide +kernel
theorem zd221_83 : decode zxm221.2.1 83 = .ok (.putfield 176, 3) := by decide +kernel
theorem zd221_86 : decode zxm221.2.1 86 = .ok (.iconst 1, 1) := by decide +kernel
theorem zd221_87 : decode zxm221.2.1 87 = .ok (.ireturn, 1) := by decide +kernel
theorem zt_M_readsFactor {f0 : Int} {f1 : Int} {f2 : Int} {f3 : Int} {f4 : Int} {f5 : Int} {f6 : Int} {g0 : (Int → Int)} {g1 : (Int → Int)} {g2 : (Int → Int)} {o : Int × Int × Int × Int × Int × Int × Int × (Int → Int) × (Int → Int)} (h : zf_M_readsFactor f0 f1 f2 f3 f4 f5 f6 g0 g1 g2 = some o) : zv_Fn z_TB z_cl z_KX zy_M_readsFactor zxm221 (3, 180) [.inr 0] [.inl f0, .inl f1, .inl f2, .inl f3, .inl f4, .inl f5, .inl f6] [g0, g1, g2] (some o.1) [.inl o.2.1, .inl f1, .inl o.2.2.1, .inl o.2.2.2.1, .inl o.2.2.2.2.1, .inl o.2.2.2.2.2.1, .inl o.2.2.2.2.2.2.1] [g0, o.2.2.2.2.2.2.2.1, o.2.2.2.2.2.2.2.2] := zv_meth (K := (z_KF13, z_KC13, z_KL13, z_KT13, [], [], [], none)) (FT := z_FT) (MT := z_MT) (n := 1) zxp221 (z_ks13 _ (fun _ h => List.mem_cons_of_mem _ h) _ _ _ _ (fun j r h _ => by cases h)) (fun _ _ => zs_KX_p) zyw_M_readsFactor (fun va F G h => by obtain ⟨rfl, _⟩ := h; rfl) (fun va F G h => by obtain ⟨rfl, _⟩ := h; rfl) rfl fun good va F G hB hret hvret hP => by
  obtain ⟨rfl, rfl, rfl⟩ := hP
  have l0 : ∀ (n : Nat) (f0 : Int) (f2 : Int) (f3 : Int) (f4 : Int) (f5 : Int) (f6 : Int) (g1 : (Int → Int)) (g2 : (Int → Int)) (q : ((Int × Int × Int × Int × (Int → Int)) ⊕ (Int × Int × Int × Int × Int × Int × Int × (Int → Int) × (Int → Int)))), zf_M_readsFactor_l0 f1 f5 f6 g0 g2 n f0 f2 f3 f4 g1 = some q → (Sum.elim (fun e : Int × Int × Int × Int × (Int → Int) => good 20 [.inr 0, .inr 1000] [] [.inl e.1, .inl f1, .inl e.2.1, .inl e.2.2.1, .inl e.2.2.2.1, .inl f5, .inl f6] [g0, e.2.2.2.2, g2]) (fun w : Int × Int × Int × Int × Int × Int × Int × (Int → Int) × (Int → Int) => w = o) q) → good 0 [.inr 0, .inr 1000] [] [.inl f0, .inl f1, .inl f2, .inl f3, .inl f4, .inl f5, .inl f6] [g0, g1, g2] := by
    intro n
    induction n with
    | zero => intro f0 f2 f3 f4 f5 f6 g1 g2 q h; exact absurd (show none = some q from h) (fun h => by cases h)
    | succ n ih =>
      intro f0 f2 f3 f4 f5 f6 g1 g2 q h hK
      replace h : zf_M_readsFactor_l0_b f1 f5 f6 g0 g2 (zf_M_readsFactor_l0 f1 f5 f6 g0 g2 n) f0 f2 f3 f4 g1 = some q := h
      unfold zf_M_readsFactor_l0_b at h
      refine zv_ald hB zd221_0 rfl rfl rfl ?_
      obtain ⟨r1, hr1, h⟩ := zi_bind h
      refine zv_cv hB (zv_emq (va2 := [.inr 0]) (F := [.inl f0, .inl f1, .inl f2, .inl f3, .inl f4, .inl f5, .inl f6]) (F' := [.inl f0, .inl f1, .inl f2, .inl f3, .inl f4, .inl f5, .inl f6]) (G := [g0, g1, g2]) (G' := [g0, g1, g2]) (ρ := [0, 1]) (φ := [0, 1]) (ψ := [0]) [some 0, some 1, none, none, none, none, none] [some 0, none, none] zyw_M_here zyw_M_readsFactor zye_M_readsFactor (by decide +kernel) (zt_M_here hr1) ⟨⟨_, rfl, fun _ => rfl⟩, ⟨_, rfl, fun _ => rfl⟩, trivial⟩ ⟨rfl, trivial⟩ rfl rfl rfl rfl rfl rfl rfl) zd221_1 zxt217 rfl (by decide) (by decide) rfl ?_
      refine zv_con hB zd221_4 rfl ?_
      refine zv_cne hB zd221_6 rfl (fun hc2 => ?_) (fun hc2 => ?_)
      · rw [if_neg hc2] at h
        have hq := Option.some.inj h
        subst hq
        exact hK
      · rw [if_pos hc2] at h
        refine zv_ald hB zd221_9 rfl rfl rfl ?_
        refine zv_con hB zd221_10 rfl ?_
        obtain ⟨r3, hr3, h⟩ := zi_bind h
        refine zv_cv hB (zv_emq (va2 := [.inr 0, .inl 14]) (F := [.inl f0, .inl f1, .inl f2, .inl f3, .inl f4, .inl f5, .inl f6]) (F' := [.inl r3.2.2.2.1, .inl f1, .inl r3.2.1, .inl r3.2.2.1, .inl r3.2.2.2.2.1, .inl f5, .inl f6]) (G := [g0, g1, g2]) (G' := [g0, r3.2.2.2.2.2, g2]) (ρ := [0, 2]) (φ := [2, 3, 0, 4]) (ψ := [1]) [some 2, none, some 0, some 1, some 3, none, none] [none, some 0, none] zyw_M_opens zyw_M_readsFactor zye_M_readsFactor (by decide +kernel) (zt_M_opens hr3) ⟨⟨_, rfl, fun _ => rfl⟩, ⟨_, rfl, fun _ => rfl⟩, ⟨_, rfl, fun _ => rfl⟩, ⟨_, rfl, fun _ => rfl⟩, trivial⟩ ⟨rfl, trivial⟩ rfl rfl rfl rfl rfl rfl rfl) zd221_12 zxt222 rfl (by decide) (by decide) rfl ?_
        refine zv_zne hB zd221_15 rfl (fun hc4 => ?_) (fun hc4 => ?_)
        · rw [if_neg hc4] at h
          exact ih _ _ _ _ _ _ _ _ q h hK
        · rw [if_pos hc4] at h
          refine zv_con hB zd221_18 rfl ?_
          have hw : (0, r3.2.2.2.1, r3.2.1, r3.2.2.1, r3.2.2.2.2.1, f5, f6, r3.2.2.2.2.2, g2) = o := zi_rk (Option.some.inj h) hK
          subst hw
          exact hret _ _ _ _ _ zd221_19 (by constructor <;> decide) ⟨rfl, rfl, rfl⟩
  unfold zf_M_readsFactor at h
  obtain ⟨q5, hq5, h⟩ := zi_bind h
  refine l0 _ _ _ _ _ _ _ _ _ q5 hq5 ?_
  rcases q5 with e6 | w18
  · replace h := zi_sl h
    show good 20 [.inr 0, .inr 1000] [] [.inl e6.1, .inl f1, .inl e6.2.1, .inl e6.2.2.1, .inl e6.2.2.2.1, .inl f5, .inl f6] [g0, e6.2.2.2.2, g2]
    refine zv_ald hB zd221_20 rfl rfl rfl ?_
    obtain ⟨r7, hr7, h⟩ := zi_bind h
    refine zv_cv hB (zv_emq (va2 := [.inr 0]) (F := [.inl e6.1, .inl f1, .inl e6.2.1, .inl e6.2.2.1, .inl e6.2.2.2.1, .inl f5, .inl f6]) (F' := [.inl e6.1, .inl f1, .inl e6.2.1, .inl e6.2.2.1, .inl e6.2.2.2.1, .inl f5, .inl f6]) (G := [g0, e6.2.2.2.2, g2]) (G' := [g0, e6.2.2.2.2, g2]) (ρ := [0, 1]) (φ := [0, 1]) (ψ := [0]) [some 0, some 1, none, none, none, none, none] [some 0, none, none] zyw_M_isDigit zyw_M_readsFactor zye_M_readsFactor (by decide +kernel) (zt_M_isDigit hr7) ⟨⟨_, rfl, fun _ => rfl⟩, ⟨_, rfl, fun _ => rfl⟩, trivial⟩ ⟨rfl, trivial⟩ rfl rfl rfl rfl rfl rfl rfl) zd221_21 zxt223 rfl (by decide) (by decide) rfl ?_
    refine zv_zeq hB zd221_24 rfl (fun hc8 => ?_) (fun hc8 => ?_)
    · rw [if_pos hc8] at h
      refine zv_ald hB zd221_47 rfl rfl rfl ?_
      obtain ⟨r9, hr9, h⟩ := zi_bind h
      refine zv_cv hB (zv_emq (va2 := [.inr 0]) (F := [.inl e6.1, .inl f1, .inl e6.2.1, .inl e6.2.2.1, .inl e6.2.2.2.1, .inl f5, .inl f6]) (F' := [.inl e6.1, .inl f1, .inl e6.2.1, .inl e6.2.2.1, .inl e6.2.2.2.1, .inl f5, .inl f6]) (G := [g0, e6.2.2.2.2, g2]) (G' := [g0, e6.2.2.2.2, g2]) (ρ := [0, 1]) (φ := [0, 1]) (ψ := [0]) [some 0, some 1, none, none, none, none, none] [some 0, none, none] zyw_M_here zyw_M_readsFactor zye_M_readsFactor (by decide +kernel) (zt_M_here hr9) ⟨⟨_, rfl, fun _ => rfl⟩, ⟨_, rfl, fun _ => rfl⟩, trivial⟩ ⟨rfl, trivial⟩ rfl rfl rfl rfl rfl rfl rfl) zd221_48 zxt217 rfl (by decide) (by decide) rfl ?_
      obtain ⟨r10, hr10, h⟩ := zi_bind h
      refine zv_cs hB (zv_emq (va2 := [.inl r9]) (F := [.inl e6.1, .inl f1, .inl e6.2.1, .inl e6.2.2.1, .inl e6.2.2.2.1, .inl f5, .inl f6]) (F' := [.inl e6.1, .inl f1, .inl e6.2.1, .inl e6.2.2.1, .inl e6.2.2.2.1, .inl f5, .inl f6]) (G := [g0, e6.2.2.2.2, g2]) (G' := [g0, e6.2.2.2.2, g2]) (ρ := []) (φ := []) (ψ := []) [none, none, none, none, none, none, none] [none, none, none] zyw_M_factOf zyw_M_readsFactor zye_M_readsFactor (by decide +kernel) (zt_M_factOf hr10) trivial trivial rfl rfl rfl rfl rfl rfl rfl) zd221_51 zxt226 rfl (by decide) (by decide) rfl ?_
      refine zv_ist hB zd221_54 rfl rfl rfl ?_
      refine zv_ild hB zd221_55 rfl rfl ?_
      refine zv_con hB zd221_56 rfl ?_
      refine zv_cne hB zd221_57 rfl (fun hc11 => ?_) (fun hc11 => ?_)
      · rw [if_neg hc11] at h
        refine zv_ald hB zd221_70 rfl rfl rfl ?_
        refine zv_con hB zd221_71 rfl ?_
        refine zv_ild hB zd221_72 rfl rfl ?_
        obtain ⟨r12, hr12, h⟩ := zi_bind h
        refine zv_cv hB (zv_emq (va2 := [.inr 0, .inl 1, .inl r10]) (F := [.inl e6.1, .inl f1, .inl e6.2.1, .inl e6.2.2.1, .inl e6.2.2.2.1, .inl f5, .inl f6]) (F' := [.inl e6.1, .inl f1, .inl e6.2.1, .inl e6.2.2.1, .inl e6.2.2.2.1, .inl r12.1, .inl f6]) (G := [g0, e6.2.2.2.2, g2]) (G' := [g0, e6.2.2.2.2, r12.2]) (ρ := [0, 3]) (φ := [5]) (ψ := [2]) [none, none, none, none, none, some 0, none] [none, none, some 0] zyw_M_notes zyw_M_readsFactor zye_M_readsFactor (by decide +kernel) (zt_M_notes hr12) ⟨⟨_, rfl, fun _ => rfl⟩, trivial⟩ ⟨rfl, trivial⟩ rfl rfl rfl rfl rfl rfl rfl) zd221_73 zxt225 rfl (by decide) (by decide) rfl ?_
        refine zv_ald hB zd221_76 rfl rfl rfl ?_
        refine zv_ald hB zd221_77 rfl rfl rfl ?_
        refine zv_getf hB zd221_78 rfl rfl (fun _ _ => ?_)
        refine zv_con hB zd221_81 rfl ?_
        refine zv_addw hB zd221_82 ?_
        refine zv_putf hB zd221_83 rfl rfl (fun h => by cases h) rfl ?_
        refine zv_con hB zd221_86 rfl ?_
        have hw := Option.some.inj h
        subst hw
        exact hret _ _ _ _ _ zd221_87 (by constructor <;> decide) ⟨rfl, rfl, rfl⟩
      · rw [if_pos hc11] at h
        refine zv_ald hB zd221_60 rfl rfl rfl ?_
        refine zv_con hB zd221_61 rfl ?_
        refine zv_ald hB zd221_62 rfl rfl rfl ?_
        refine zv_getf hB zd221_63 rfl rfl (fun _ _ => ?_)
        obtain ⟨r13, hr13, h⟩ := zi_bind h
        refine zv_cv hB (zv_emq (va2 := [.inr 0, .inl 1, .inl e6.1]) (F := [.inl e6.1, .inl f1, .inl e6.2.1, .inl e6.2.2.1, .inl e6.2.2.2.1, .inl f5, .inl f6]) (F' := [.inl e6.1, .inl f1, .inl e6.2.1, .inl e6.2.2.1, .inl r13.2, .inl f5, .inl f6]) (G := [g0, e6.2.2.2.2, g2]) (G' := [g0, e6.2.2.2.2, g2]) (ρ := [0]) (φ := [4]) (ψ := []) [none, none, none, none, some 0, none, none] [none, none, none] zyw_M_wrongAt zyw_M_readsFactor zye_M_readsFactor (by decide +kernel) (zt_M_wrongAt hr13) ⟨⟨_, rfl, fun _ => rfl⟩, trivial⟩ trivial rfl rfl rfl rfl rfl rfl rfl) zd221_66 zxt219 rfl (by decide) (by decide) rfl ?_
        obtain ⟨c14, h⟩ := zi_if h
        have hw := Option.some.inj h
        subst hw
        exact hret _ _ _ _ _ zd221_69 (zi_bo_ok c14) ⟨rfl, rfl, rfl⟩
    · rw [if_neg hc8] at h
      refine zv_ald hB zd221_27 rfl rfl rfl ?_
      obtain ⟨r15, hr15, h⟩ := zi_bind h
      refine zv_cv hB (zv_emq (va2 := [.inr 0]) (F := [.inl e6.1, .inl f1, .inl e6.2.1, .inl e6.2.2.1, .inl e6.2.2.2.1, .inl f5, .inl f6]) (F' := [.inl r15.2.1, .inl f1, .inl e6.2.1, .inl e6.2.2.1, .inl r15.2.2.2, .inl f5, .inl r15.2.2.1]) (G := [g0, e6.2.2.2.2, g2]) (G' := [g0, e6.2.2.2.2, g2]) (ρ := [0, 1]) (φ := [0, 6, 1, 4]) (ψ := [0]) [some 0, some 2, none, none, some 3, none, some 1] [some 0, none, none] zyw_M_readsNumber zyw_M_readsFactor zye_M_readsFactor (by decide +kernel) (zt_M_readsNumber hr15) ⟨⟨_, rfl, fun _ => rfl⟩, ⟨_, rfl, fun _ => rfl⟩, ⟨_, rfl, fun _ => rfl⟩, ⟨_, rfl, fun _ => rfl⟩, trivial⟩ ⟨rfl, trivial⟩ rfl rfl rfl rfl rfl rfl rfl) zd221_28 zxt224 rfl (by decide) (by decide) rfl ?_
      refine zv_zne hB zd221_31 rfl (fun hc16 => ?_) (fun hc16 => ?_)
      · rw [if_neg hc16] at h
        refine zv_ald hB zd221_36 rfl rfl rfl ?_
        refine zv_con hB zd221_37 rfl ?_
        refine zv_ald hB zd221_38 rfl rfl rfl ?_
        refine zv_getf hB zd221_39 rfl rfl (fun _ _ => ?_)
        obtain ⟨r17, hr17, h⟩ := zi_bind h
        refine zv_cv hB (zv_emq (va2 := [.inr 0, .inl 0, .inl r15.2.2.1]) (F := [.inl r15.2.1, .inl f1, .inl e6.2.1, .inl e6.2.2.1, .inl r15.2.2.2, .inl f5, .inl r15.2.2.1]) (F' := [.inl r15.2.1, .inl f1, .inl e6.2.1, .inl e6.2.2.1, .inl r15.2.2.2, .inl r17.1, .inl r15.2.2.1]) (G := [g0, e6.2.2.2.2, g2]) (G' := [g0, e6.2.2.2.2, r17.2]) (ρ := [0, 3]) (φ := [5]) (ψ := [2]) [none, none, none, none, none, some 0, none] [none, none, some 0] zyw_M_notes zyw_M_readsFactor zye_M_readsFactor (by decide +kernel) (zt_M_notes hr17) ⟨⟨_, rfl, fun _ => rfl⟩, trivial⟩ ⟨rfl, trivial⟩ rfl rfl rfl rfl rfl rfl rfl) zd221_42 zxt225 rfl (by decide) (by decide) rfl ?_
        refine zv_con hB zd221_45 rfl ?_
        have hw := Option.some.inj h
        subst hw
        exact hret _ _ _ _ _ zd221_46 (by constructor <;> decide) ⟨rfl, rfl, rfl⟩
      · rw [if_pos hc16] at h
        refine zv_con hB zd221_34 rfl ?_
        have hw := Option.some.inj h
        subst hw
        exact hret _ _ _ _ _ zd221_35 (by constructor <;> decide) ⟨rfl, rfl, rfl⟩
  · exact Option.some.inj h
/-! M_sumSign (I)I -/
-- names: 
-- fields: ; arrays: ; out: [('ret', None)]
abbrev zy_M_sumSign : zNL := (0, [], [], [], [])
theorem zyw_M_sumSign : zv_wf zy_M_sumSign = true := by decide +kernel
theorem zye_M_sumSign : zv_ek2 zy_M_sumSign = true := by decide +kernel
def zf_M_sumSign (x0 : Int) : Option (Int) := if x0 = 43 then (some 2) else (if x0 = 45 then (some 3) else (if x0 = 42 then (some 4) else (if x0 = 47 then (some 5) else (if x0 = 37 then (some 6) else (some (-1))))))
theorem zd227_0 : decode zxm227.2.1 0 = .ok (.iload_n 0, 1) := by decide +kernel
theorem zd227_1 : decode zxm227.2.1 1 = .ok (.bipush 43, 2) := by decide +kernel
theorem zd227_3 : decode zxm227.2.1 3 = .ok (.if_icmp .ne 7, 3) := by decide +kernel
theorem zd227_6 : decode zxm227.2.1 6 = .ok (.iconst 2, 1) := by decide +kernel
theorem zd227_7 : decode zxm227.2.1 7 = .ok (.goto 45, 3) := by decide +kernel
theorem zd227_10 : decode zxm227.2.1 10 = .ok (.iload_n 0, 1) := by decide +kernel
theorem zd227_11 : decode zxm227.2.1 11 = .ok (.bipush 45, 2) := by decide +kernel
theorem zd227_13 : decode zxm227.2.1 13 = .ok (.if_icmp .ne 7, 3) := by decide +kernel
theorem zd227_16 : decode zxm227.2.1 16 = .ok (.iconst 3, 1) := by decide +kernel
theorem zd227_17 : decode zxm227.2.1 17 = .ok (.goto 35, 3) := by decide +kernel
theorem zd227_20 : decode zxm227.2.1 20 = .ok (.iload_n 0, 1) := by decide +kernel
theorem zd227_21 : decode zxm227.2.1 21 = .ok (.bipush 42, 2) := by decide +kernel
theorem zd227_23 : decode zxm227.2.1 23 = .ok (.if_icmp .ne 7, 3) := by decide +kernel
theorem zd227_26 : decode zxm227.2.1 26 = .ok (.iconst 4, 1) := by decide +kernel
theorem zd227_27 : decode zxm227.2.1 27 = .ok (.goto 25, 3) := by decide +kernel
theorem zd227_30 : decode zxm227.2.1 30 = .ok (.iload_n 0, 1) := by decide +kernel
theorem zd227_31 : decode zxm227.2.1 31 = .ok (.bipush 47, 2) := by decide +kernel
theorem zd227_33 : decode zxm227.2.1 33 = .ok (.if_icmp .ne 7, 3) := by decide +kernel
theorem zd227_36 : decode zxm227.2.1 36 = .ok (.iconst 5, 1) := by decide +kernel
theorem zd227_37 : decode zxm227.2.1 37 = .ok (.goto 15, 3) := by decide +kernel
theorem zd227_40 : decode zxm227.2.1 40 = .ok (.iload_n 0, 1) := by decide +kernel
theorem zd227_41 : decode zxm227.2.1 41 = .ok (.bipush 37, 2) := by decide +kernel
theorem zd227_43 : decode zxm227.2.1 43 = .ok (.if_icmp .ne 8, 3) := by decide +kernel
theorem zd227_46 : decode zxm227.2.1 46 = .ok (.bipush 6, 2) := by decide +kernel
theorem zd227_48 : decode zxm227.2.1 48 = .ok (.goto 4, 3) := by decide +kernel
theorem zd227_51 : decode zxm227.2.1 51 = .ok (.iconst (-1), 1) := by decide +kernel
theorem zd227_52 : decode zxm227.2.1 52 = .ok (.ireturn, 1) := by decide +kernel
theorem zt_M_sumSign {x0 : Int} {o : Int} (h : zf_M_sumSign x0 = some o) : zv_Fn z_TB z_cl z_KX zy_M_sumSign zxm227 (0, 0) [.inl x0] [] [] (some o) [] [] := zv_meth (K := (z_KF13, z_KC13, z_KL13, z_KT13, [], [], [], none)) (FT := z_FT) (MT := z_MT) (n := 1) zxp227 (z_ks13 _ (fun _ h => List.mem_cons_of_mem _ h) _ _ _ _ (fun j r h _ => by cases h)) (fun _ _ => zs_KX_p) zyw_M_sumSign (fun va F G h => by obtain ⟨rfl, _⟩ := h; rfl) (fun va F G h => by obtain ⟨rfl, _⟩ := h; rfl) rfl fun good va F G hB hret hvret hP => by
  obtain ⟨rfl, rfl, rfl⟩ := hP
  unfold zf_M_sumSign at h
  refine zv_ild hB zd227_0 rfl rfl ?_
  refine zv_con hB zd227_1 rfl ?_
  refine zv_cne hB zd227_3 rfl (fun hc1 => ?_) (fun hc1 => ?_)
  · rw [if_neg hc1] at h
    refine zv_ild hB zd227_10 rfl rfl ?_
    refine zv_con hB zd227_11 rfl ?_
    refine zv_cne hB zd227_13 rfl (fun hc2 => ?_) (fun hc2 => ?_)
    · rw [if_neg hc2] at h
      refine zv_ild hB zd227_20 rfl rfl ?_
      refine zv_con hB zd227_21 rfl ?_
      refine zv_cne hB zd227_23 rfl (fun hc3 => ?_) (fun hc3 => ?_)
      · rw [if_neg hc3] at h
        refine zv_ild hB zd227_30 rfl rfl ?_
        refine zv_con hB zd227_31 rfl ?_
        refine zv_cne hB zd227_33 rfl (fun hc4 => ?_) (fun hc4 => ?_)
        · rw [if_neg hc4] at h
          refine zv_ild hB zd227_40 rfl rfl ?_
          refine zv_con hB zd227_41 rfl ?_
          refine zv_cne hB zd227_43 rfl (fun hc5 => ?_) (fun hc5 => ?_)
          · rw [if_neg hc5] at h
            refine zv_con hB zd227_51 rfl ?_
            have hw := Option.some.inj h
            subst hw
            exact hret _ _ _ _ _ zd227_52 (by trivial) ⟨rfl, rfl, rfl⟩
          · rw [if_pos hc5] at h
            refine zv_con hB zd227_46 rfl ?_
            refine zv_goto hB zd227_48 rfl ?_
            have hw := Option.some.inj h
            subst hw
            exact hret _ _ _ _ _ zd227_52 (by trivial) ⟨rfl, rfl, rfl⟩
        · rw [if_pos hc4] at h
          refine zv_con hB zd227_36 rfl ?_
          refine zv_goto hB zd227_37 rfl ?_
          have hw := Option.some.inj h
          subst hw
          exact hret _ _ _ _ _ zd227_52 (by trivial) ⟨rfl, rfl, rfl⟩
      · rw [if_pos hc3] at h
        refine zv_con hB zd227_26 rfl ?_
        refine zv_goto hB zd227_27 rfl ?_
        have hw := Option.some.inj h
        subst hw
        exact hret _ _ _ _ _ zd227_52 (by trivial) ⟨rfl, rfl, rfl⟩
    · rw [if_pos hc2] at h
      refine zv_con hB zd227_16 rfl ?_
      refine zv_goto hB zd227_17 rfl ?_
      have hw := Option.some.inj h
      subst hw
      exact hret _ _ _ _ _ zd227_52 (by trivial) ⟨rfl, rfl, rfl⟩
  · rw [if_pos hc1] at h
    refine zv_con hB zd227_6 rfl ?_
    refine zv_goto hB zd227_7 rfl ?_
    have hw := Option.some.inj h
    subst hw
    exact hret _ _ _ _ _ zd227_52 (by trivial) ⟨rfl, rfl, rfl⟩
/-! M_hasOpenSum (I)Z -/
-- names: 0 StarTalesModel('arg', 0), 1 (0, 220)(0, 12, 15)
-- fields: f0 = 0.waiting_; arrays: g0 = 1; out: [('ret', None)]
abbrev zy_M_hasOpenSum : zNL := (2, [(0, 12)], [(0, 12, 10, 0)], [(0, 12, 15, 1)], [(1, 0, 220, 0)])
theorem zyw_M_hasOpenSum : zv_wf zy_M_hasOpenSum = true := by decide +kernel
theorem zye_M_hasOpenSum : zv_ek2 zy_M_hasOpenSum = true := by decide +kernel
def zf_M_hasOpenSum_l0_b (f0 : Int) (g0 : (Int → Int)) (rec : Int → Option (((Unit) ⊕ (Int)))) (x2 : Int) : Option (((Unit) ⊕ (Int))) := if x2 < f0 then (cond (zi_ix x2 220) (if (zi_div (g0 x2) 1048576) = 14 then (some (.inr 1)) else (rec (zi_w (x2 + 1)))) none) else (some (.inl ()))
def zf_M_hasOpenSum_l0 (f0 : Int) (g0 : (Int → Int)) : Nat → Int → Option (((Unit) ⊕ (Int)))
  | 0, _ => none
  | n + 1, x2 => zf_M_hasOpenSum_l0_b f0 g0 (zf_M_hasOpenSum_l0 f0 g0 n) x2
def zf_M_hasOpenSum (x1 : Int) (f0 : Int) (g0 : (Int → Int)) : Option (Int) := (zf_M_hasOpenSum_l0 f0 g0 zi_fu x1).bind fun q4 => Sum.elim (fun e5 => (some 0)) (fun w6 => some w6) q4
theorem zd230_0 : decode zxm230.2.1 0 = .ok (.iload_n 1, 1) := by decide +kernel
theorem zd230_1 : decode zxm230.2.1 1 = .ok (.istore_n 2, 1) := by decide +kernel
theorem zd230_2 : decode zxm230.2.1 2 = .ok (.iload_n 2, 1) := by decide +kernel
theorem zd230_3 : decode zxm230.2.1 3 = .ok (.aload_n 0, 1) := by decide +kernel
theorem zd230_4 : decode zxm230.2.1 4 = .ok (.getfield 206, 3) := by decide +kernel
theorem zd230_7 : decode zxm230.2.1 7 = .ok (.if_icmp .ge 25, 3) := by decide +kernel
theorem zd230_10 : decode zxm230.2.1 10 = .ok (.aload_n 0, 1) := by decide +kernel
theorem zd230_11 : decode zxm230.2.1 11 = .ok (.getfield 26, 3) := by decide +kernel
theorem zd230_14 : decode zxm230.2.1 14 = .ok (.iload_n 2, 1) := by decide +kernel
theorem zd230_15 : decode zxm230.2.1 15 = .ok (.iaload, 1) := by decide +kernel
theorem zd230_16 : decode zxm230.2.1 16 = .ok (.ldc 202, 2) := by decide +kernel
theorem zd230_18 : decode zxm230.2.1 18 = .ok (.idiv, 1) := by decide +kernel
theorem zd230_19 : decode zxm230.2.1 19 = .ok (.bipush 14, 2) := by decide +kernel
theorem zd230_21 : decode zxm230.2.1 21 = .ok (.if_icmp .ne 5, 3) := by decide +kernel
theorem zd230_24 : decode zxm230.2.1 24 = .ok (.iconst 1, 1) := by decide +kernel
theorem zd230_25 : decode zxm230.2.1 25 = .ok (.ireturn, 1) := by decide +kernel
theorem zd230_26 : decode zxm230.2.1 26 = .ok (.iinc 2 1, 3) := by decide +kernel
theorem zd230_29 : decode zxm230.2.1 29 = .ok (.goto (-27), 3) := by decide +kernel
theorem zd230_32 : decode zxm230.2.1 32 = .ok (.iconst 0, 1) := by decide +kernel
theorem zd230_33 : decode zxm230.2.1 33 = .ok (.ireturn, 1) := by decide +kernel
theorem zt_M_hasOpenSum {x1 : Int} {f0 : Int} {g0 : (Int → Int)} {o : Int} (h : zf_M_hasOpenSum x1 f0 g0 = some o) : zv_Fn z_TB z_cl z_KX zy_M_hasOpenSum zxm230 (0, 0) [.inr 0, .inl x1] [.inl f0] [g0] (some o) [.inl f0] [g0] := zv_meth (K := (z_KF13, z_KC13, z_KL13, z_KT13, [], [], [], none)) (FT := z_FT) (MT := z_MT) (n := 2) zxp230 (z_ks13 _ (fun _ h => List.mem_cons_of_mem _ h) _ _ _ _ (fun j r h _ => by cases h)) (fun _ _ => zs_KX_p) zyw_M_hasOpenSum (fun va F G h => by obtain ⟨rfl, _⟩ := h; rfl) (fun va F G h => by obtain ⟨rfl, _⟩ := h; rfl) rfl fun good va F G hB hret hvret hP => by
  obtain ⟨rfl, rfl, rfl⟩ := hP
  have l0 : ∀ (n : Nat) (x2 : Int) (q : ((Unit) ⊕ (Int))), zf_M_hasOpenSum_l0 f0 g0 n x2 = some q → (Sum.elim (fun e : Unit => good 32 [.inr 1000, .inr 1000, .inr 1000] [] [.inl f0] [g0]) (fun w : Int => w = o) q) → good 2 [.inr 0, .inr 1000, .inl x2] [] [.inl f0] [g0] := by
    intro n
    induction n with
    | zero => intro x2 q h; exact absurd (show none = some q from h) (fun h => by cases h)
    | succ n ih =>
      intro x2 q h hK
      replace h : zf_M_hasOpenSum_l0_b f0 g0 (zf_M_hasOpenSum_l0 f0 g0 n) x2 = some q := h
      unfold zf_M_hasOpenSum_l0_b at h
      refine zv_ild hB zd230_2 rfl rfl ?_
      refine zv_ald hB zd230_3 rfl rfl rfl ?_
      refine zv_getf hB zd230_4 rfl rfl (fun _ _ => ?_)
      refine zv_cge hB zd230_7 rfl (fun hc1 => ?_) (fun hc1 => ?_)
      · rw [if_neg (Int.not_lt.mpr hc1)] at h
        have hq := Option.some.inj h
        subst hq
        refine zv_wk hB (L' := [.inr 1000, .inr 1000, .inr 1000]) (F' := [.inl f0]) ⟨fun (h : zv_is (.inr 1000)) => (Nat.lt_irrefl 1000 h).elim, fun (h : zv_is (.inr 1000)) => (Nat.lt_irrefl 1000 h).elim, fun (h : zv_is (.inr 1000)) => (Nat.lt_irrefl 1000 h).elim, trivial⟩ ⟨fun _ => rfl, trivial⟩ ?_
        exact hK
      · rw [if_pos hc1] at h
        refine zv_ald hB zd230_10 rfl rfl rfl ?_
        refine zv_getr hB zd230_11 rfl ?_
        refine zv_ild hB zd230_14 rfl rfl ?_
        obtain ⟨c2, h⟩ := zi_if h
        refine zv_iald hB zd230_15 rfl rfl (zi_ix_ok c2).1 (zi_ix_ok c2).2 (fun _ _ => ?_)
        refine zv_con (n := 1048576) hB zd230_16 (by decide +kernel) ?_
        refine zv_divw hB zd230_18 (by decide) ?_
        refine zv_con hB zd230_19 rfl ?_
        refine zv_cne hB zd230_21 rfl (fun hc3 => ?_) (fun hc3 => ?_)
        · rw [if_neg hc3] at h
          refine zv_iincw hB zd230_26 rfl rfl ?_
          refine zv_goto hB zd230_29 rfl ?_
          exact ih _ q h hK
        · rw [if_pos hc3] at h
          refine zv_con hB zd230_24 rfl ?_
          have hw : 1 = o := zi_rk (Option.some.inj h) hK
          subst hw
          exact hret _ _ _ _ _ zd230_25 (by constructor <;> decide) ⟨rfl, rfl, rfl⟩
  unfold zf_M_hasOpenSum at h
  refine zv_ild hB zd230_0 rfl rfl ?_
  refine zv_ist hB zd230_1 rfl rfl rfl ?_
  obtain ⟨q4, hq4, h⟩ := zi_bind h
  refine zv_wk hB (L' := [.inr 0, .inr 1000, .inl x1]) (F' := [.inl f0]) ⟨fun _ => rfl, fun (h : zv_is (.inr 1000)) => (Nat.lt_irrefl 1000 h).elim, fun _ => rfl, trivial⟩ ⟨fun _ => rfl, trivial⟩ ?_
  refine l0 _ _ q4 hq4 ?_
  rcases q4 with e5 | w6
  · replace h := zi_sl h
    show good 32 [.inr 1000, .inr 1000, .inr 1000] [] [.inl f0] [g0]
    refine zv_con hB zd230_32 rfl ?_
    have hw := Option.some.inj h
    subst hw
    exact hret _ _ _ _ _ zd230_33 (by constructor <;> decide) ⟨rfl, rfl, rfl⟩
  · exact Option.some.inj h
/-! M_waitTop ()I -/
-- names: 0 StarTalesModel('arg', 0), 1 (0, 220)(0, 12, 15)
-- fields: f0 = 0.waiting_; arrays: g0 = 1; out: [('ret', None)]
abbrev zy_M_waitTop : zNL := (2, [(0, 12)], [(0, 12, 10, 0)], [(0, 12, 15, 1)], [(1, 0, 220, 0)])
theorem zyw_M_waitTop : zv_wf zy_M_waitTop = true := by decide +kernel
theorem zye_M_waitTop : zv_ek2 zy_M_waitTop = true := by decide +kernel
def zf_M_waitTop (f0 : Int) (g0 : (Int → Int)) : Option (Int) := if f0 = 0 then (some (-1)) else (cond (zi_ix (zi_w (f0 - 1)) 220) (some (zi_div (g0 (zi_w (f0 - 1))) 1048576)) none)
theorem zd229_0 : decode zxm229.2.1 0 = .ok (.aload_n 0, 1) := by decide +kernel
theorem zd229_1 : decode zxm229.2.1 1 = .ok (.getfield 206, 3) := by decide +kernel
theorem zd229_4 : decode zxm229.2.1 4 = .ok (.ifCond .ne 7, 3) := by decide +kernel
theorem zd229_7 : decode zxm229.2.1 7 = .ok (.iconst (-1), 1) := by decide +kernel
theorem zd229_8 : decode zxm229.2.1 8 = .ok (.goto 17, 3) := by decide +kernel
theorem zd229_11 : decode zxm229.2.1 11 = .ok (.aload_n 0, 1) := by decide +kernel
theorem zd229_12 : decode zxm229.2.1 12 = .ok (.getfield 26, 3) := by decide +kernel
theorem zd229_15 : decode zxm229.2.1 15 = .ok (.aload_n 0, 1) := by decide +kernel
theorem zd229_16 : decode zxm229.2.1 16 = .ok (.getfield 206, 3) := by decide +kernel
theorem zd229_19 : decode zxm229.2.1 19 = .ok (.iconst 1, 1) := by decide +kernel
theorem zd229_20 : decode zxm229.2.1 20 = .ok (.isub, 1) := by decide +kernel
theorem zd229_21 : decode zxm229.2.1 21 = .ok (.iaload, 1) := by decide +kernel
theorem zd229_22 : decode zxm229.2.1 22 = .ok (.ldc 202, 2) := by decide +kernel
theorem zd229_24 : decode zxm229.2.1 24 = .ok (.idiv, 1) := by decide +kernel
theorem zd229_25 : decode zxm229.2.1 25 = .ok (.ireturn, 1) := by decide +kernel
theorem zt_M_waitTop {f0 : Int} {g0 : (Int → Int)} {o : Int} (h : zf_M_waitTop f0 g0 = some o) : zv_Fn z_TB z_cl z_KX zy_M_waitTop zxm229 (0, 0) [.inr 0] [.inl f0] [g0] (some o) [.inl f0] [g0] := zv_meth (K := (z_KF13, z_KC13, z_KL13, z_KT13, [], [], [], none)) (FT := z_FT) (MT := z_MT) (n := 1) zxp229 (z_ks13 _ (fun _ h => List.mem_cons_of_mem _ h) _ _ _ _ (fun j r h _ => by cases h)) (fun _ _ => zs_KX_p) zyw_M_waitTop (fun va F G h => by obtain ⟨rfl, _⟩ := h; rfl) (fun va F G h => by obtain ⟨rfl, _⟩ := h; rfl) rfl fun good va F G hB hret hvret hP => by
  obtain ⟨rfl, rfl, rfl⟩ := hP
  unfold zf_M_waitTop at h
  refine zv_ald hB zd229_0 rfl rfl rfl ?_
  refine zv_getf hB zd229_1 rfl rfl (fun _ _ => ?_)
  refine zv_zne hB zd229_4 rfl (fun hc1 => ?_) (fun hc1 => ?_)
  · rw [if_neg hc1] at h
    refine zv_ald hB zd229_11 rfl rfl rfl ?_
    refine zv_getr hB zd229_12 rfl ?_
    refine zv_ald hB zd229_15 rfl rfl rfl ?_
    refine zv_getf hB zd229_16 rfl rfl (fun _ _ => ?_)
    refine zv_con hB zd229_19 rfl ?_
    refine zv_subw hB zd229_20 ?_
    obtain ⟨c2, h⟩ := zi_if h
    refine zv_iald hB zd229_21 rfl rfl (zi_ix_ok c2).1 (zi_ix_ok c2).2 (fun _ _ => ?_)
    refine zv_con (n := 1048576) hB zd229_22 (by decide +kernel) ?_
    refine zv_divw hB zd229_24 (by decide) ?_
    have hw := Option.some.inj h
    subst hw
    exact hret _ _ _ _ _ zd229_25 (by trivial) ⟨rfl, rfl, rfl⟩
  · rw [if_pos hc1] at h
    refine zv_con hB zd229_7 rfl ?_
    refine zv_goto hB zd229_8 rfl ?_
    have hw := Option.some.inj h
    subst hw
    exact hret _ _ _ _ _ zd229_25 (by trivial) ⟨rfl, rfl, rfl⟩
end
section
/-! Methods as functions, and that they do what these do. -/
/-! M_closesSums (Z)V -/
-- names: 0 StarTalesModel('arg', 0), 1 (0, 220)(0, 12, 15), 2 (0, 220)(0, 12, 14)
-- fields: f0 = 0.waiting_, f1 = 0.codeMany_; arrays: g0 = 1, g1 = 2; out: [('f', 0), ('f', 1), ('g', 1)]
abbrev zy_M_closesSums : zNL := (3, [(0, 12)], [(0, 12, 10, 0), (0, 12, 9, 1)], [(0, 12, 15, 1), (0, 12, 14, 2)], [(1, 0, 220, 0), (2, 0, 220, 1)])
theorem zyw_M_closesSums : zv_wf zy_M_closesSums = true := by decide +kernel
theorem zye_M_closesSums : zv_ek2 zy_M_closesSums = true := by decide +kernel
def zf_M_closesSums_l0_b (x1 : Int) (g0 : (Int → Int)) (rec : Int → Int → (Int → Int) → Option (Int × Int × (Int → Int))) (f0 : Int) (f1 : Int) (g1 : (Int → Int)) : Option (Int × Int × (Int → Int)) := (zf_M_waitTop f0 g0).bind fun r1 => (if r1 < 4 then (if x1 = 0 then (some (f0, f1, g1)) else ((zf_M_waitTop f0 g0).bind fun r4 => (if r4 = 2 then ((zf_M_waitTop f0 g0).bind fun r6 => ((zf_M_notes r6 0 f1 g1).bind fun r7 => (rec (zi_w (f0 - 1)) r7.1 r7.2))) else ((zf_M_waitTop f0 g0).bind fun r8 => (if r8 = 3 then ((zf_M_waitTop f0 g0).bind fun r10 => ((zf_M_notes r10 0 f1 g1).bind fun r11 => (rec (zi_w (f0 - 1)) r11.1 r11.2))) else (some (f0, f1, g1))))))) else ((zf_M_waitTop f0 g0).bind fun r12 => (if 6 < r12 then (if x1 = 0 then (some (f0, f1, g1)) else ((zf_M_waitTop f0 g0).bind fun r17 => (if r17 = 2 then ((zf_M_waitTop f0 g0).bind fun r19 => ((zf_M_notes r19 0 f1 g1).bind fun r20 => (rec (zi_w (f0 - 1)) r20.1 r20.2))) else ((zf_M_waitTop f0 g0).bind fun r21 => (if r21 = 3 then ((zf_M_waitTop f0 g0).bind fun r23 => ((zf_M_notes r23 0 f1 g1).bind fun r24 => (rec (zi_w (f0 - 1)) r24.1 r24.2))) else (some (f0, f1, g1))))))) else ((zf_M_waitTop f0 g0).bind fun r14 => ((zf_M_notes r14 0 f1 g1).bind fun r15 => (rec (zi_w (f0 - 1)) r15.1 r15.2))))))
def zf_M_closesSums_l0 (x1 : Int) (g0 : (Int → Int)) : Nat → Int → Int → (Int → Int) → Option (Int × Int × (Int → Int))
  | 0, _, _, _ => none
  | n + 1, f0, f1, g1 => zf_M_closesSums_l0_b x1 g0 (zf_M_closesSums_l0 x1 g0 n) f0 f1 g1
def zf_M_closesSums (x1 : Int) (f0 : Int) (f1 : Int) (g0 : (Int → Int)) (g1 : (Int → Int)) : Option (Int × Int × (Int → Int)) := (zf_M_closesSums_l0 x1 g0 zi_fu f0 f1 g1).bind fun q25 => (some (q25.1, q25.2.1, q25.2.2))
theorem zd228_0 : decode zxm228.2.1 0 = .ok (.aload_n 0, 1) := by decide +kernel
theorem zd228_1 : decode zxm228.2.1 1 = .ok (.invokevirtual 209, 3) := by decide +kernel
theorem zd228_4 : decode zxm228.2.1 4 = .ok (.iconst 4, 1) := by decide +kernel
theorem zd228_5 : decode zxm228.2.1 5 = .ok (.if_icmp .lt 12, 3) := by decide +kernel
theorem zd228_8 : decode zxm228.2.1 8 = .ok (.aload_n 0, 1) := by decide +kernel
theorem zd228_9 : decode zxm228.2.1 9 = .ok (.invokevirtual 209, 3) := by decide +kernel
theorem zd228_12 : decode zxm228.2.1 12 = .ok (.bipush 6, 2) := by decide +kernel
theorem zd228_14 : decode zxm228.2.1 14 = .ok (.if_icmp .le 23, 3) := by decide +kernel
theorem zd228_17 : decode zxm228.2.1 17 = .ok (.iload_n 1, 1) := by decide +kernel
theorem zd228_18 : decode zxm228.2.1 18 = .ok (.ifCond .eq 41, 3) := by decide +kernel
theorem zd228_21 : decode zxm228.2.1 21 = .ok (.aload_n 0, 1) := by decide +kernel
theorem zd228_22 : decode zxm228.2.1 22 = .ok (.invokevirtual 209, 3) := by decide +kernel
theorem zd228_25 : decode zxm228.2.1 25 = .ok (.iconst 2, 1) := by decide +kernel
theorem zd228_26 : decode zxm228.2.1 26 = .ok (.if_icmp .eq 11, 3) := by decide +kernel
theorem zd228_29 : decode zxm228.2.1 29 = .ok (.aload_n 0, 1) := by decide +kernel
theorem zd228_30 : decode zxm228.2.1 30 = .ok (.invokevirtual 209, 3) := by decide +kernel
theorem zd228_33 : decode zxm228.2.1 33 = .ok (.iconst 3, 1) := by decide +kernel
theorem zd228_34 : decode zxm228.2.1 34 = .ok (.if_icmp .ne 25, 3) := by decide +kernel
theorem zd228_37 : decode zxm228.2.1 37 = .ok (.aload_n 0, 1) := by decide +kernel
theorem zd228_38 : decode zxm228.2.1 38 = .ok (.aload_n 0, 1) := by decide +kernel
theorem zd228_39 : decode zxm228.2.1 39 = .ok (.invokevirtual 209, 3) := by decide +kernel
theorem zd228_42 : decode zxm228.2.1 42 = .ok (.iconst 0, 1) := by decide +kernel
theorem zd228_43 : decode zxm228.2.1 43 = .ok (.invokevirtual 212, 3) := by decide +kernel
theorem zd228_46 : decode zxm228.2.1 46 = .ok (.aload_n 0, 1) := by decide +kernel
theorem zd228_47 : decode zxm228.2.1 47 = .ok (.aload_n 0, 1) := by decide +kernel
theorem zd228_48 : decode zxm228.2.1 48 = .ok (.getfield 206, 3) := by decide +kernel
theorem zd228_51 : decode zxm228.2.1 51 = .ok (.iconst 1, 1) := by decide +kernel
theorem zd228_52 : decode zxm228.2.1 52 = .ok (.isub, 1) := by decide +kernel
theorem zd228_53 : decode zxm228.2.1 53 = .ok (.putfield 206, 3) := by decide +kernel
theorem zd228_56 : decode zxm228.2.1 56 = .ok (.goto (-56), 3) := by decide +kernel
theorem zd228_59 : decode zxm228.2.1 59 = .ok (.return_, 1) := by decide +kernel
theorem zt_M_closesSums {x1 : Int} {f0 : Int} {f1 : Int} {g0 : (Int → Int)} {g1 : (Int → Int)} {o : Int × Int × (Int → Int)} (h : zf_M_closesSums x1 f0 f1 g0 g1 = some o) : zv_Fn z_TB z_cl z_KX zy_M_closesSums zxm228 (1, 60) [.inr 0, .inl x1] [.inl f0, .inl f1] [g0, g1] none [.inl o.1, .inl o.2.1] [g0, o.2.2] := zv_meth (K := (z_KF13, z_KC13, z_KL13, z_KT13, [], [], [], none)) (FT := z_FT) (MT := z_MT) (n := 2) zxp228 (z_ks13 _ (fun _ h => List.mem_cons_of_mem _ h) _ _ _ _ (fun j r h _ => by cases h)) (fun _ _ => zs_KX_p) zyw_M_closesSums (fun va F G h => by obtain ⟨rfl, _⟩ := h; rfl) (fun va F G h => by obtain ⟨rfl, _⟩ := h; rfl) rfl fun good va F G hB hret hvret hP => by
  obtain ⟨rfl, rfl, rfl⟩ := hP
  have l0 : ∀ (n : Nat) (x1 : Int) (f0 : Int) (f1 : Int) (g1 : (Int → Int)) (q : Int × Int × (Int → Int)), zf_M_closesSums_l0 x1 g0 n f0 f1 g1 = some q → (good 59 [.inr 1000, .inr 1000] [] [.inl q.1, .inl q.2.1] [g0, q.2.2]) → good 0 [.inr 0, .inl x1] [] [.inl f0, .inl f1] [g0, g1] := by
    intro n
    induction n with
    | zero => intro x1 f0 f1 g1 q h; exact absurd (show none = some q from h) (fun h => by cases h)
    | succ n ih =>
      intro x1 f0 f1 g1 q h hK
      replace h : zf_M_closesSums_l0_b x1 g0 (zf_M_closesSums_l0 x1 g0 n) f0 f1 g1 = some q := h
      unfold zf_M_closesSums_l0_b at h
      refine zv_ald hB zd228_0 rfl rfl rfl ?_
      obtain ⟨r1, hr1, h⟩ := zi_bind h
      refine zv_cv hB (zv_emq (va2 := [.inr 0]) (F := [.inl f0, .inl f1]) (F' := [.inl f0, .inl f1]) (G := [g0, g1]) (G' := [g0, g1]) (ρ := [0, 1]) (φ := [0]) (ψ := [0]) [some 0, none] [some 0, none] zyw_M_waitTop zyw_M_closesSums zye_M_closesSums (by decide +kernel) (zt_M_waitTop hr1) ⟨⟨_, rfl, fun _ => rfl⟩, trivial⟩ ⟨rfl, trivial⟩ rfl rfl rfl rfl rfl rfl rfl) zd228_1 zxt229 rfl (by decide) (by decide) rfl ?_
      refine zv_con hB zd228_4 rfl ?_
      refine zv_clt hB zd228_5 rfl (fun hc2 => ?_) (fun hc2 => ?_)
      · rw [if_pos hc2] at h
        refine zv_ild hB zd228_17 rfl rfl ?_
        refine zv_zeq hB zd228_18 rfl (fun hc3 => ?_) (fun hc3 => ?_)
        · rw [if_pos hc3] at h
          have hq := Option.some.inj h
          subst hq
          refine zv_wk hB (L' := [.inr 1000, .inr 1000]) (F' := [.inl f0, .inl f1]) ⟨fun (h : zv_is (.inr 1000)) => (Nat.lt_irrefl 1000 h).elim, fun (h : zv_is (.inr 1000)) => (Nat.lt_irrefl 1000 h).elim, trivial⟩ ⟨fun _ => rfl, fun _ => rfl, trivial⟩ ?_
          exact hK
        · rw [if_neg hc3] at h
          refine zv_ald hB zd228_21 rfl rfl rfl ?_
          obtain ⟨r4, hr4, h⟩ := zi_bind h
          refine zv_cv hB (zv_emq (va2 := [.inr 0]) (F := [.inl f0, .inl f1]) (F' := [.inl f0, .inl f1]) (G := [g0, g1]) (G' := [g0, g1]) (ρ := [0, 1]) (φ := [0]) (ψ := [0]) [some 0, none] [some 0, none] zyw_M_waitTop zyw_M_closesSums zye_M_closesSums (by decide +kernel) (zt_M_waitTop hr4) ⟨⟨_, rfl, fun _ => rfl⟩, trivial⟩ ⟨rfl, trivial⟩ rfl rfl rfl rfl rfl rfl rfl) zd228_22 zxt229 rfl (by decide) (by decide) rfl ?_
          refine zv_con hB zd228_25 rfl ?_
          refine zv_ceq hB zd228_26 rfl (fun hc5 => ?_) (fun hc5 => ?_)
          · rw [if_pos hc5] at h
            refine zv_ald hB zd228_37 rfl rfl rfl ?_
            refine zv_ald hB zd228_38 rfl rfl rfl ?_
            obtain ⟨r6, hr6, h⟩ := zi_bind h
            refine zv_cv hB (zv_emq (va2 := [.inr 0]) (F := [.inl f0, .inl f1]) (F' := [.inl f0, .inl f1]) (G := [g0, g1]) (G' := [g0, g1]) (ρ := [0, 1]) (φ := [0]) (ψ := [0]) [some 0, none] [some 0, none] zyw_M_waitTop zyw_M_closesSums zye_M_closesSums (by decide +kernel) (zt_M_waitTop hr6) ⟨⟨_, rfl, fun _ => rfl⟩, trivial⟩ ⟨rfl, trivial⟩ rfl rfl rfl rfl rfl rfl rfl) zd228_39 zxt229 rfl (by decide) (by decide) rfl ?_
            refine zv_con hB zd228_42 rfl ?_
            obtain ⟨r7, hr7, h⟩ := zi_bind h
            refine zv_cv hB (zv_emq (va2 := [.inr 0, .inl r6, .inl 0]) (F := [.inl f0, .inl f1]) (F' := [.inl f0, .inl r7.1]) (G := [g0, g1]) (G' := [g0, r7.2]) (ρ := [0, 2]) (φ := [1]) (ψ := [1]) [none, some 0] [none, some 0] zyw_M_notes zyw_M_closesSums zye_M_closesSums (by decide +kernel) (zt_M_notes hr7) ⟨⟨_, rfl, fun _ => rfl⟩, trivial⟩ ⟨rfl, trivial⟩ rfl rfl rfl rfl rfl rfl rfl) zd228_43 zxt225 rfl (by decide) (by decide) rfl ?_
            refine zv_ald hB zd228_46 rfl rfl rfl ?_
            refine zv_ald hB zd228_47 rfl rfl rfl ?_
            refine zv_getf hB zd228_48 rfl rfl (fun _ _ => ?_)
            refine zv_con hB zd228_51 rfl ?_
            refine zv_subw hB zd228_52 ?_
            refine zv_putf hB zd228_53 rfl rfl (fun h => by cases h) rfl ?_
            refine zv_goto hB zd228_56 rfl ?_
            exact ih _ _ _ _ q h hK
          · rw [if_neg hc5] at h
            refine zv_ald hB zd228_29 rfl rfl rfl ?_
            obtain ⟨r8, hr8, h⟩ := zi_bind h
            refine zv_cv hB (zv_emq (va2 := [.inr 0]) (F := [.inl f0, .inl f1]) (F' := [.inl f0, .inl f1]) (G := [g0, g1]) (G' := [g0, g1]) (ρ := [0, 1]) (φ := [0]) (ψ := [0]) [some 0, none] [some 0, none] zyw_M_waitTop zyw_M_closesSums zye_M_closesSums (by decide +kernel) (zt_M_waitTop hr8) ⟨⟨_, rfl, fun _ => rfl⟩, trivial⟩ ⟨rfl, trivial⟩ rfl rfl rfl rfl rfl rfl rfl) zd228_30 zxt229 rfl (by decide) (by decide) rfl ?_
            refine zv_con hB zd228_33 rfl ?_
            refine zv_cne hB zd228_34 rfl (fun hc9 => ?_) (fun hc9 => ?_)
            · rw [if_neg hc9] at h
              have hq := Option.some.inj h
              subst hq
              refine zv_wk hB (L' := [.inr 1000, .inr 1000]) (F' := [.inl f0, .inl f1]) ⟨fun (h : zv_is (.inr 1000)) => (Nat.lt_irrefl 1000 h).elim, fun (h : zv_is (.inr 1000)) => (Nat.lt_irrefl 1000 h).elim, trivial⟩ ⟨fun _ => rfl, fun _ => rfl, trivial⟩ ?_
              exact hK
            · rw [if_pos hc9] at h
              refine zv_ald hB zd228_37 rfl rfl rfl ?_
              refine zv_ald hB zd228_38 rfl rfl rfl ?_
              obtain ⟨r10, hr10, h⟩ := zi_bind h
              refine zv_cv hB (zv_emq (va2 := [.inr 0]) (F := [.inl f0, .inl f1]) (F' := [.inl f0, .inl f1]) (G := [g0, g1]) (G' := [g0, g1]) (ρ := [0, 1]) (φ := [0]) (ψ := [0]) [some 0, none] [some 0, none] zyw_M_waitTop zyw_M_closesSums zye_M_closesSums (by decide +kernel) (zt_M_waitTop hr10) ⟨⟨_, rfl, fun _ => rfl⟩, trivial⟩ ⟨rfl, trivial⟩ rfl rfl rfl rfl rfl rfl rfl) zd228_39 zxt229 rfl (by decide) (by decide) rfl ?_
              refine zv_con hB zd228_42 rfl ?_
              obtain ⟨r11, hr11, h⟩ := zi_bind h
              refine zv_cv hB (zv_emq (va2 := [.inr 0, .inl r10, .inl 0]) (F := [.inl f0, .inl f1]) (F' := [.inl f0, .inl r11.1]) (G := [g0, g1]) (G' := [g0, r11.2]) (ρ := [0, 2]) (φ := [1]) (ψ := [1]) [none, some 0] [none, some 0] zyw_M_notes zyw_M_closesSums zye_M_closesSums (by decide +kernel) (zt_M_notes hr11) ⟨⟨_, rfl, fun _ => rfl⟩, trivial⟩ ⟨rfl, trivial⟩ rfl rfl rfl rfl rfl rfl rfl) zd228_43 zxt225 rfl (by decide) (by decide) rfl ?_
              refine zv_ald hB zd228_46 rfl rfl rfl ?_
              refine zv_ald hB zd228_47 rfl rfl rfl ?_
              refine zv_getf hB zd228_48 rfl rfl (fun _ _ => ?_)
              refine zv_con hB zd228_51 rfl ?_
              refine zv_subw hB zd228_52 ?_
              refine zv_putf hB zd228_53 rfl rfl (fun h => by cases h) rfl ?_
              refine zv_goto hB zd228_56 rfl ?_
              exact ih _ _ _ _ q h hK
      · rw [if_neg (Int.not_lt.mpr hc2)] at h
        refine zv_ald hB zd228_8 rfl rfl rfl ?_
        obtain ⟨r12, hr12, h⟩ := zi_bind h
        refine zv_cv hB (zv_emq (va2 := [.inr 0]) (F := [.inl f0, .inl f1]) (F' := [.inl f0, .inl f1]) (G := [g0, g1]) (G' := [g0, g1]) (ρ := [0, 1]) (φ := [0]) (ψ := [0]) [some 0, none] [some 0, none] zyw_M_waitTop zyw_M_closesSums zye_M_closesSums (by decide +kernel) (zt_M_waitTop hr12) ⟨⟨_, rfl, fun _ => rfl⟩, trivial⟩ ⟨rfl, trivial⟩ rfl rfl rfl rfl rfl rfl rfl) zd228_9 zxt229 rfl (by decide) (by decide) rfl ?_
        refine zv_con hB zd228_12 rfl ?_
        refine zv_cle hB zd228_14 rfl (fun hc13 => ?_) (fun hc13 => ?_)
        · rw [if_neg (Int.not_lt.mpr hc13)] at h
          refine zv_ald hB zd228_37 rfl rfl rfl ?_
          refine zv_ald hB zd228_38 rfl rfl rfl ?_
          obtain ⟨r14, hr14, h⟩ := zi_bind h
          refine zv_cv hB (zv_emq (va2 := [.inr 0]) (F := [.inl f0, .inl f1]) (F' := [.inl f0, .inl f1]) (G := [g0, g1]) (G' := [g0, g1]) (ρ := [0, 1]) (φ := [0]) (ψ := [0]) [some 0, none] [some 0, none] zyw_M_waitTop zyw_M_closesSums zye_M_closesSums (by decide +kernel) (zt_M_waitTop hr14) ⟨⟨_, rfl, fun _ => rfl⟩, trivial⟩ ⟨rfl, trivial⟩ rfl rfl rfl rfl rfl rfl rfl) zd228_39 zxt229 rfl (by decide) (by decide) rfl ?_
          refine zv_con hB zd228_42 rfl ?_
          obtain ⟨r15, hr15, h⟩ := zi_bind h
          refine zv_cv hB (zv_emq (va2 := [.inr 0, .inl r14, .inl 0]) (F := [.inl f0, .inl f1]) (F' := [.inl f0, .inl r15.1]) (G := [g0, g1]) (G' := [g0, r15.2]) (ρ := [0, 2]) (φ := [1]) (ψ := [1]) [none, some 0] [none, some 0] zyw_M_notes zyw_M_closesSums zye_M_closesSums (by decide +kernel) (zt_M_notes hr15) ⟨⟨_, rfl, fun _ => rfl⟩, trivial⟩ ⟨rfl, trivial⟩ rfl rfl rfl rfl rfl rfl rfl) zd228_43 zxt225 rfl (by decide) (by decide) rfl ?_
          refine zv_ald hB zd228_46 rfl rfl rfl ?_
          refine zv_ald hB zd228_47 rfl rfl rfl ?_
          refine zv_getf hB zd228_48 rfl rfl (fun _ _ => ?_)
          refine zv_con hB zd228_51 rfl ?_
          refine zv_subw hB zd228_52 ?_
          refine zv_putf hB zd228_53 rfl rfl (fun h => by cases h) rfl ?_
          refine zv_goto hB zd228_56 rfl ?_
          exact ih _ _ _ _ q h hK
        · rw [if_pos hc13] at h
          refine zv_ild hB zd228_17 rfl rfl ?_
          refine zv_zeq hB zd228_18 rfl (fun hc16 => ?_) (fun hc16 => ?_)
          · rw [if_pos hc16] at h
            have hq := Option.some.inj h
            subst hq
            refine zv_wk hB (L' := [.inr 1000, .inr 1000]) (F' := [.inl f0, .inl f1]) ⟨fun (h : zv_is (.inr 1000)) => (Nat.lt_irrefl 1000 h).elim, fun (h : zv_is (.inr 1000)) => (Nat.lt_irrefl 1000 h).elim, trivial⟩ ⟨fun _ => rfl, fun _ => rfl, trivial⟩ ?_
            exact hK
          · rw [if_neg hc16] at h
            refine zv_ald hB zd228_21 rfl rfl rfl ?_
            obtain ⟨r17, hr17, h⟩ := zi_bind h
            refine zv_cv hB (zv_emq (va2 := [.inr 0]) (F := [.inl f0, .inl f1]) (F' := [.inl f0, .inl f1]) (G := [g0, g1]) (G' := [g0, g1]) (ρ := [0, 1]) (φ := [0]) (ψ := [0]) [some 0, none] [some 0, none] zyw_M_waitTop zyw_M_closesSums zye_M_closesSums (by decide +kernel) (zt_M_waitTop hr17) ⟨⟨_, rfl, fun _ => rfl⟩, trivial⟩ ⟨rfl, trivial⟩ rfl rfl rfl rfl rfl rfl rfl) zd228_22 zxt229 rfl (by decide) (by decide) rfl ?_
            refine zv_con hB zd228_25 rfl ?_
            refine zv_ceq hB zd228_26 rfl (fun hc18 => ?_) (fun hc18 => ?_)
            · rw [if_pos hc18] at h
              refine zv_ald hB zd228_37 rfl rfl rfl ?_
              refine zv_ald hB zd228_38 rfl rfl rfl ?_
              obtain ⟨r19, hr19, h⟩ := zi_bind h
              refine zv_cv hB (zv_emq (va2 := [.inr 0]) (F := [.inl f0, .inl f1]) (F' := [.inl f0, .inl f1]) (G := [g0, g1]) (G' := [g0, g1]) (ρ := [0, 1]) (φ := [0]) (ψ := [0]) [some 0, none] [some 0, none] zyw_M_waitTop zyw_M_closesSums zye_M_closesSums (by decide +kernel) (zt_M_waitTop hr19) ⟨⟨_, rfl, fun _ => rfl⟩, trivial⟩ ⟨rfl, trivial⟩ rfl rfl rfl rfl rfl rfl rfl) zd228_39 zxt229 rfl (by decide) (by decide) rfl ?_
              refine zv_con hB zd228_42 rfl ?_
              obtain ⟨r20, hr20, h⟩ := zi_bind h
              refine zv_cv hB (zv_emq (va2 := [.inr 0, .inl r19, .inl 0]) (F := [.inl f0, .inl f1]) (F' := [.inl f0, .inl r20.1]) (G := [g0, g1]) (G' := [g0, r20.2]) (ρ := [0, 2]) (φ := [1]) (ψ := [1]) [none, some 0] [none, some 0] zyw_M_notes zyw_M_closesSums zye_M_closesSums (by decide +kernel) (zt_M_notes hr20) ⟨⟨_, rfl, fun _ => rfl⟩, trivial⟩ ⟨rfl, trivial⟩ rfl rfl rfl rfl rfl rfl rfl) zd228_43 zxt225 rfl (by decide) (by decide) rfl ?_
              refine zv_ald hB zd228_46 rfl rfl rfl ?_
              refine zv_ald hB zd228_47 rfl rfl rfl ?_
              refine zv_getf hB zd228_48 rfl rfl (fun _ _ => ?_)
              refine zv_con hB zd228_51 rfl ?_
              refine zv_subw hB zd228_52 ?_
              refine zv_putf hB zd228_53 rfl rfl (fun h => by cases h) rfl ?_
              refine zv_goto hB zd228_56 rfl ?_
              exact ih _ _ _ _ q h hK
            · rw [if_neg hc18] at h
              refine zv_ald hB zd228_29 rfl rfl rfl ?_
              obtain ⟨r21, hr21, h⟩ := zi_bind h
              refine zv_cv hB (zv_emq (va2 := [.inr 0]) (F := [.inl f0, .inl f1]) (F' := [.inl f0, .inl f1]) (G := [g0, g1]) (G' := [g0, g1]) (ρ := [0, 1]) (φ := [0]) (ψ := [0]) [some 0, none] [some 0, none] zyw_M_waitTop zyw_M_closesSums zye_M_closesSums (by decide +kernel) (zt_M_waitTop hr21) ⟨⟨_, rfl, fun _ => rfl⟩, trivial⟩ ⟨rfl, trivial⟩ rfl rfl rfl rfl rfl rfl rfl) zd228_30 zxt229 rfl (by decide) (by decide) rfl ?_
              refine zv_con hB zd228_33 rfl ?_
              refine zv_cne hB zd228_34 rfl (fun hc22 => ?_) (fun hc22 => ?_)
              · rw [if_neg hc22] at h
                have hq := Option.some.inj h
                subst hq
                refine zv_wk hB (L' := [.inr 1000, .inr 1000]) (F' := [.inl f0, .inl f1]) ⟨fun (h : zv_is (.inr 1000)) => (Nat.lt_irrefl 1000 h).elim, fun (h : zv_is (.inr 1000)) => (Nat.lt_irrefl 1000 h).elim, trivial⟩ ⟨fun _ => rfl, fun _ => rfl, trivial⟩ ?_
                exact hK
              · rw [if_pos hc22] at h
                refine zv_ald hB zd228_37 rfl rfl rfl ?_
                refine zv_ald hB zd228_38 rfl rfl rfl ?_
                obtain ⟨r23, hr23, h⟩ := zi_bind h
                refine zv_cv hB (zv_emq (va2 := [.inr 0]) (F := [.inl f0, .inl f1]) (F' := [.inl f0, .inl f1]) (G := [g0, g1]) (G' := [g0, g1]) (ρ := [0, 1]) (φ := [0]) (ψ := [0]) [some 0, none] [some 0, none] zyw_M_waitTop zyw_M_closesSums zye_M_closesSums (by decide +kernel) (zt_M_waitTop hr23) ⟨⟨_, rfl, fun _ => rfl⟩, trivial⟩ ⟨rfl, trivial⟩ rfl rfl rfl rfl rfl rfl rfl) zd228_39 zxt229 rfl (by decide) (by decide) rfl ?_
                refine zv_con hB zd228_42 rfl ?_
                obtain ⟨r24, hr24, h⟩ := zi_bind h
                refine zv_cv hB (zv_emq (va2 := [.inr 0, .inl r23, .inl 0]) (F := [.inl f0, .inl f1]) (F' := [.inl f0, .inl r24.1]) (G := [g0, g1]) (G' := [g0, r24.2]) (ρ := [0, 2]) (φ := [1]) (ψ := [1]) [none, some 0] [none, some 0] zyw_M_notes zyw_M_closesSums zye_M_closesSums (by decide +kernel) (zt_M_notes hr24) ⟨⟨_, rfl, fun _ => rfl⟩, trivial⟩ ⟨rfl, trivial⟩ rfl rfl rfl rfl rfl rfl rfl) zd228_43 zxt225 rfl (by decide) (by decide) rfl ?_
                refine zv_ald hB zd228_46 rfl rfl rfl ?_
                refine zv_ald hB zd228_47 rfl rfl rfl ?_
                refine zv_getf hB zd228_48 rfl rfl (fun _ _ => ?_)
                refine zv_con hB zd228_51 rfl ?_
                refine zv_subw hB zd228_52 ?_
                refine zv_putf hB zd228_53 rfl rfl (fun h => by cases h) rfl ?_
                refine zv_goto hB zd228_56 rfl ?_
                exact ih _ _ _ _ q h hK
  unfold zf_M_closesSums at h
  obtain ⟨q25, hq25, h⟩ := zi_bind h
  refine l0 _ _ _ _ _ q25 hq25 ?_
  show good 59 [.inr 1000, .inr 1000] [] [.inl q25.1, .inl q25.2.1] [g0, q25.2.2]
  have hw := Option.some.inj h
  subst hw
  exact hvret _ _ _ _ zd228_59 trivial ⟨rfl, rfl, rfl⟩
/-! M_readsSum ()Z -/
-- names: 0 StarTalesModel('arg', 0), 1 (1, 220)(0, 12, 3), 2 (0, 220)(0, 12, 15), 3 (0, 220)(0, 12, 14)
-- fields: f0 = 0.waiting_, f1 = 0.place0_, f2 = 0.length0_, f3 = 0.open_, f4 = 0.fault_, f5 = 0.codeMany_, f6 = 0.number0_; arrays: g0 = 1, g1 = 2, g2 = 3; out: [('ret', None), ('f', 0), ('f', 1), ('f', 3), ('f', 4), ('f', 5), ('f', 6), ('g', 1), ('g', 2)]
abbrev zy_M_readsSum : zNL := (4, [(0, 12)], [(0, 12, 10, 0), (0, 12, 5, 1), (0, 12, 6, 2), (0, 12, 8, 3), (0, 12, 7, 4), (0, 12, 9, 5), (0, 12, 12, 6)], [(0, 12, 3, 1), (0, 12, 15, 2), (0, 12, 14, 3)], [(1, 1, 220, 0), (2, 0, 220, 1), (3, 0, 220, 2)])
theorem zyw_M_readsSum : zv_wf zy_M_readsSum = true := by decide +kernel
theorem zye_M_readsSum : zv_ek2 zy_M_readsSum = true := by decide +kernel
def zf_M_readsSum_l0_b (x1 : Int) (f2 : Int) (g0 : (Int → Int)) (rec : Int → Int → Int → Int → Int → Int → (Int → Int) → (Int → Int) → Option (((Int × Int × Int × Int × Int × Int × (Int → Int) × (Int → Int)) ⊕ (Int × Int × Int × Int × Int × Int × Int × (Int → Int) × (Int → Int))))) (f0 : Int) (f1 : Int) (f3 : Int) (f4 : Int) (f5 : Int) (f6 : Int) (g1 : (Int → Int)) (g2 : (Int → Int)) : Option (((Int × Int × Int × Int × Int × Int × (Int → Int) × (Int → Int)) ⊕ (Int × Int × Int × Int × Int × Int × Int × (Int → Int) × (Int → Int)))) := (zf_M_here f1 f2 g0).bind fun r3 => ((zf_M_sumSign r3).bind fun r4 => (if r4 = (-1) then ((zf_M_here f1 f2 g0).bind fun r6 => (if r6 = 93 then ((zf_M_hasOpenSum x1 f0 g1).bind fun r8 => (if r8 = 0 then (some (.inl (f0, f1, f3, f4, f5, f6, g1, g2))) else ((zf_M_closesSums 1 f0 f5 g1 g2).bind fun r10 => (rec (zi_w (r10.1 - 1)) (zi_w (f1 + 1)) (zi_w (f3 - 1)) f4 r10.2.1 f6 g1 r10.2.2)))) else (some (.inl (f0, f1, f3, f4, f5, f6, g1, g2))))) else (if r4 < 4 then ((zf_M_closesSums 1 f0 f5 g1 g2).bind fun r16 => (cond (zi_ix r16.1 220) ((zf_M_readsFactor (zi_w (f1 + 1)) f2 f3 (zi_w (r16.1 + 1)) f4 r16.2.1 f6 g0 (zv_up g1 r16.1 (zi_w (1048576 * r4))) r16.2.2).bind fun r18 => (if r18.1 = 0 then (some (.inr (0, r18.2.2.2.1, r18.2.1, r18.2.2.1, r18.2.2.2.2.1, r18.2.2.2.2.2.1, r18.2.2.2.2.2.2.1, r18.2.2.2.2.2.2.2.1, r18.2.2.2.2.2.2.2.2))) else (rec r18.2.2.2.1 r18.2.1 r18.2.2.1 r18.2.2.2.2.1 r18.2.2.2.2.2.1 r18.2.2.2.2.2.2.1 r18.2.2.2.2.2.2.2.1 r18.2.2.2.2.2.2.2.2))) none)) else ((zf_M_closesSums 0 f0 f5 g1 g2).bind fun r12 => (cond (zi_ix r12.1 220) ((zf_M_readsFactor (zi_w (f1 + 1)) f2 f3 (zi_w (r12.1 + 1)) f4 r12.2.1 f6 g0 (zv_up g1 r12.1 (zi_w (1048576 * r4))) r12.2.2).bind fun r14 => (if r14.1 = 0 then (some (.inr (0, r14.2.2.2.1, r14.2.1, r14.2.2.1, r14.2.2.2.2.1, r14.2.2.2.2.2.1, r14.2.2.2.2.2.2.1, r14.2.2.2.2.2.2.2.1, r14.2.2.2.2.2.2.2.2))) else (rec r14.2.2.2.1 r14.2.1 r14.2.2.1 r14.2.2.2.2.1 r14.2.2.2.2.2.1 r14.2.2.2.2.2.2.1 r14.2.2.2.2.2.2.2.1 r14.2.2.2.2.2.2.2.2))) none)))))
def zf_M_readsSum_l0 (x1 : Int) (f2 : Int) (g0 : (Int → Int)) : Nat → Int → Int → Int → Int → Int → Int → (Int → Int) → (Int → Int) → Option (((Int × Int × Int × Int × Int × Int × (Int → Int) × (Int → Int)) ⊕ (Int × Int × Int × Int × Int × Int × Int × (Int → Int) × (Int → Int))))
  | 0, _, _, _, _, _, _, _, _ => none
  | n + 1, f0, f1, f3, f4, f5, f6, g1, g2 => zf_M_readsSum_l0_b x1 f2 g0 (zf_M_readsSum_l0 x1 f2 g0 n) f0 f1 f3 f4 f5 f6 g1 g2
def zf_M_readsSum (f0 : Int) (f1 : Int) (f2 : Int) (f3 : Int) (f4 : Int) (f5 : Int) (f6 : Int) (g0 : (Int → Int)) (g1 : (Int → Int)) (g2 : (Int → Int)) : Option (Int × Int × Int × Int × Int × Int × Int × (Int → Int) × (Int → Int)) := (zf_M_readsFactor f1 f2 f3 f0 f4 f5 f6 g0 g1 g2).bind fun r1 => (if r1.1 = 0 then (some (0, r1.2.2.2.1, r1.2.1, r1.2.2.1, r1.2.2.2.2.1, r1.2.2.2.2.2.1, r1.2.2.2.2.2.2.1, r1.2.2.2.2.2.2.2.1, r1.2.2.2.2.2.2.2.2)) else ((zf_M_readsSum_l0 f0 f2 g0 zi_fu r1.2.2.2.1 r1.2.1 r1.2.2.1 r1.2.2.2.2.1 r1.2.2.2.2.2.1 r1.2.2.2.2.2.2.1 r1.2.2.2.2.2.2.2.1 r1.2.2.2.2.2.2.2.2).bind fun q20 => Sum.elim (fun e21 => ((zf_M_hasOpenSum f0 e21.1 e21.2.2.2.2.2.2.1).bind fun r22 => (if r22 = 0 then ((zf_M_closesSums 1 e21.1 e21.2.2.2.2.1 e21.2.2.2.2.2.2.1 e21.2.2.2.2.2.2.2).bind fun r24 => (some (1, r24.1, e21.2.1, e21.2.2.1, e21.2.2.2.1, r24.2.1, e21.2.2.2.2.2.1, e21.2.2.2.2.2.2.1, r24.2.2))) else ((zf_M_wrongAt 1 e21.2.1 e21.2.2.2.1).bind fun r25 => (cond (zi_bo r25.1) (some (r25.1, e21.1, e21.2.1, e21.2.2.1, r25.2, e21.2.2.2.2.1, e21.2.2.2.2.2.1, e21.2.2.2.2.2.2.1, e21.2.2.2.2.2.2.2)) none))))) (fun w27 => some w27) q20))
theorem zd220_0 : decode zxm220.2.1 0 = .ok (.aload_n 0, 1) := by decide +kernel
theorem zd220_1 : decode zxm220.2.1 1 = .ok (.getfield 206, 3) := by decide +kernel
theorem zd220_4 : decode zxm220.2.1 4 = .ok (.istore_n 1, 1) := by decide +kernel
theorem zd220_5 : decode zxm220.2.1 5 = .ok (.aload_n 0, 1) := by decide +kernel
theorem zd220_6 : decode zxm220.2.1 6 = .ok (.invokevirtual 225, 3) := by decide +kernel
theorem zd220_9 : decode zxm220.2.1 9 = .ok (.ifCond .ne 5, 3) := by decide +kernel
theorem zd220_12 : decode zxm220.2.1 12 = .ok (.iconst 0, 1) := by decide +kernel
theorem zd220_13 : decode zxm220.2.1 13 = .ok (.ireturn, 1) := by decide +kernel
theorem zd220_14 : decode zxm220.2.1 14 = .ok (.aload_n 0, 1) := by decide +kernel
theorem zd220_15 : decode zxm220.2.1 15 = .ok (.invokevirtual 182, 3) := by decide +kernel
theorem zd220_18 : decode zxm220.2.1 18 = .ok (.invokestatic 228, 3) := by decide +kernel
theorem zd220_21 : decode zxm220.2.1 21 = .ok (.istore_n 2, 1) := by decide +kernel
theorem zd220_22 : decode zxm220.2.1 22 = .ok (.iload_n 2, 1) := by decide +kernel
theorem zd220_23 : decode zxm220.2.1 23 = .ok (.iconst (-1), 1) := by decide +kernel
theorem zd220_24 : decode zxm220.2.1 24 = .ok (.if_icmp .eq 59, 3) := by decide +kernel
theorem zd220_27 : decode zxm220.2.1 27 = .ok (.aload_n 0, 1) := by decide +kernel
theorem zd220_28 : decode zxm220.2.1 28 = .ok (.iload_n 2, 1) := by decide +kernel
theorem zd220_29 : decode zxm220.2.1 29 = .ok (.iconst 4, 1) := by decide +kernel
theorem zd220_30 : decode zxm220.2.1 30 = .ok (.if_icmp .ge 7, 3) := by decide +kernel
theorem zd220_33 : decode zxm220.2.1 33 = .ok (.iconst 1, 1) := by decide +kernel
theorem zd220_34 : decode zxm220.2.1 34 = .ok (.goto 4, 3) := by decide +kernel
theorem zd220_37 : decode zxm220.2.1 37 = .ok (.iconst 0, 1) := by decide +kernel
theorem zd220_38 : decode zxm220.2.1 38 = .ok (.invokevirtual 231, 3) := by decide +kernel
theorem zd220_41 : decode zxm220.2.1 41 = .ok (.aload_n 0, 1) := by decide +kernel
theorem zd220_42 : decode zxm220.2.1 42 = .ok (.getfield 26, 3) := by decide +kernel
theorem zd220_45 : decode zxm220.2.1 45 = .ok (.aload_n 0, 1) := by decide +kernel
theorem zd220_46 : decode zxm220.2.1 46 = .ok (.getfield 206, 3) := by decide +kernel
theorem zd220_49 : decode zxm220.2.1 49 = .ok (.ldc 202, 2) := by decide +kernel
theorem zd220_51 : decode zxm220.2.1 51 = .ok (.iload_n 2, 1) := by decide +kernel
theorem zd220_52 : decode zxm220.2.1 52 = .ok (.imul, 1) := by decide +kernel
theorem zd220_53 : decode zxm220.2.1 53 = .ok (.iastore, 1) := by decide +kernel
theorem zd220_54 : decode zxm220.2.1 54 = .ok (.aload_n 0, 1) := by decide +kernel
theorem zd220_55 : decode zxm220.2.1 55 = .ok (.aload_n 0, 1) := by decide +kernel
theorem zd220_56 : decode zxm220.2.1 56 = .ok (.getfield 206, 3) := by decide +kernel
theorem zd220_59 : decode zxm220.2.1 59 = .ok (.iconst 1, 1) := by decide +kernel
theorem zd220_60 : decode zxm220.2.1 60 = .ok (.iadd, 1) := by decide +kernel
theorem zd220_61 : decode zxm220.2.1 61 = .ok (.putfield 206, 3) := by decide +kernel
theorem zd220_64 : decode zxm220.2.1 64 = .ok (.aload_n 0, 1) := by decide +kernel
theorem zd220_65 : decode zxm220.2.1 65 = .ok (.aload_n 0, 1) := by decide +kernel
theorem zd220_66 : decode zxm220.2.1 66 = .ok (.getfield 176, 3) := by decide +kernel
theorem zd220_69 : decode zxm220.2.1 69 = .ok (.iconst 1, 1) := by decide +kernel
theorem zd220_70 : decode zxm220.2.1 70 = .ok (.iadd, 1) := by decide +kernel
theorem zd220_71 : decode zxm220.2.1 71 = .ok (.putfield 176, 3) := by decide +kernel
theorem zd220_74 : decode zxm220.2.1 74 = .ok (.aload_n 0, 1) := by decide +kernel
theorem zd220_75 : decode zxm220.2.1 75 = .ok (.invokevirtual 225, 3) := by decide +kernel
theorem zd220_78 : decode zxm220.2.1 78 = .ok (.ifCond .ne 85, 3) := by decide +kernel
theorem zd220_81 : decode zxm220.2.1 81 = .ok (.iconst 0, 1) := by decide +kernel
theorem zd220_82 : decode zxm220.2.1 82 = .ok (.ireturn, 1) := by decide +kernel
theorem zd220_83 : decode zxm220.2.1 83 = .ok (.aload_n 0, 1) := by decide +kernel
theorem zd220_84 : decode zxm220.2.1 84 = .ok (.invokevirtual 182, 3) := by decide +kernel
theorem zd220_87 : decode zxm220.2.1 87 = .ok (.bipush 93, 2) := by decide +kernel
theorem zd220_89 : decode zxm220.2.1 89 = .ok (.if_icmp .ne 49, 3) := by decide +kernel
theorem zd220_92 : decode zxm220.2.1 92 = .ok (.aload_n 0, 1) := by decide +kernel
theorem zd220_93 : decode zxm220.2.1 93 = .ok (.iload_n 1, 1) := by decide +kernel
theorem zd220_94 : decode zxm220.2.1 94 = .ok (.invokevirtual 235, 3) := by decide +kernel
theorem zd220_97 : decode zxm220.2.1 97 = .ok (.ifCond .eq 41, 3) := by decide +kernel
theorem zd220_100 : decode zxm220.2.1 100 = .ok (.aload_n 0, 1) := by decide +kernel
theorem zd220_101 : decode zxm220.2.1 101 = .ok (.iconst 1, 1) := by decide +kernel
theorem zd220_102 : decode zxm220.2.1 102 = .ok (.invokevirtual 231, 3) := by decide +kernel
theorem zd220_105 : decode zxm220.2.1 105 = .ok (.aload_n 0, 1) := by decide +kernel
theorem zd220_106 : decode zxm220.2.1 106 = .ok (.aload_n 0, 1) := by decide +kernel
theorem zd220_107 : decode zxm220.2.1 107 = .ok (.getfield 206, 3) := by decide +kernel
theorem zd220_110 : decode zxm220.2.1 110 = .ok (.iconst 1, 1) := by decide +kernel
theorem zd220_111 : decode zxm220.2.1 111 = .ok (.isub, 1) := by decide +kernel
theorem zd220_112 : decode zxm220.2.1 112 = .ok (.putfield 206, 3) := by decide +kernel
theorem zd220_115 : decode zxm220.2.1 115 = .ok (.aload_n 0, 1) := by decide +kernel
theorem zd220_116 : decode zxm220.2.1 116 = .ok (.aload_n 0, 1) := by decide +kernel
theorem zd220_117 : decode zxm220.2.1 117 = .ok (.getfield 203, 3) := by decide +kernel
theorem zd220_120 : decode zxm220.2.1 120 = .ok (.iconst 1, 1) := by decide +kernel
theorem zd220_121 : decode zxm220.2.1 121 = .ok (.isub, 1) := by decide +kernel
theorem zd220_122 : decode zxm220.2.1 122 = .ok (.putfield 203, 3) := by decide +kernel
theorem zd220_125 : decode zxm220.2.1 125 = .ok (.aload_n 0, 1) := by decide +kernel
theorem zd220_126 : decode zxm220.2.1 126 = .ok (.aload_n 0, 1) := by decide +kernel
theorem zd220_127 : decode zxm220.2.1 127 = .ok (.getfield 176, 3) := by decide +kernel
theorem zd220_130 : decode zxm220.2.1 130 = .ok (.iconst 1, 1) := by decide +kernel
theorem zd220_131 : decode zxm220.2.1 131 = .ok (.iadd, 1) := by decide +kernel
theorem zd220_132 : decode zxm220.2.1 132 = .ok (.putfield 176, 3) := by decide +kernel
theorem zd220_135 : decode zxm220.2.1 135 = .ok (.goto 28, 3) := by decide +kernel
theorem zd220_138 : decode zxm220.2.1 138 = .ok (.aload_n 0, 1) := by decide +kernel
theorem zd220_139 : decode zxm220.2.1 139 = .ok (.iload_n 1, 1) := by decide +kernel
theorem zd220_140 : decode zxm220.2.1 140 = .ok (.invokevirtual 235, 3) := by decide +kernel
theorem zd220_143 : decode zxm220.2.1 143 = .ok (.ifCond .eq 13, 3) := by decide +kernel
theorem zd220_146 : decode zxm220.2.1 146 = .ok (.aload_n 0, 1) := by decide +kernel
theorem zd220_147 : decode zxm220.2.1 147 = .ok (.iconst 1, 1) := by decide +kernel
theorem zd220_148 : decode zxm220.2.1 148 = .ok (.aload_n 0, 1) := by decide +kernel
theorem zd220_149 : decode zxm220.2.1 149 = .ok (.getfield 176, 3) := by decide +kernel
theorem zd220_152 : decode zxm220.2.1 152 = .ok (.invokevirtual 189, 3) := by decide +kernel
theorem zd220_155 : decode zxm220.2.1 155 = .ok (.ireturn, 1) := by decide +kernel
theorem zd220_156 : decode zxm220.2.1 156 = .ok (.aload_n 0, 1) := by decide +kernel
theorem zd220_157 : decode zxm220.2.1 157 = .ok (.iconst 1, 1) := by decide +kernel
theorem zd220_158 : decode zxm220.2.1 158 = .ok (.invokevirtual 231, 3) := by decide +kernel
theorem zd220_161 : decode zxm220.2.1 161 = .ok (.iconst 1, 1) := by decide +kernel
theorem zd220_162 : decode zxm220.2.1 162 = .ok (.ireturn, 1) := by decide +kernel
theorem zd220_163 : decode zxm220.2.1 163 = .ok (.goto (-149), 3) := by decide +kernel
theorem zt_M_readsSum {f0 : Int} {f1 : Int} {f2 : Int} {f3 : Int} {f4 : Int} {f5 : Int} {f6 : Int} {g0 : (Int → Int)} {g1 : (Int → Int)} {g2 : (Int → Int)} {o : Int × Int × Int × Int × Int × Int × Int × (Int → Int) × (Int → Int)} (h : zf_M_readsSum f0 f1 f2 f3 f4 f5 f6 g0 g1 g2 = some o) : zv_Fn z_TB z_cl z_KX zy_M_readsSum zxm220 (4, 240) [.inr 0] [.inl f0, .inl f1, .inl f2, .inl f3, .inl f4, .inl f5, .inl f6] [g0, g1, g2] (some o.1) [.inl o.2.1, .inl o.2.2.1, .inl f2, .inl o.2.2.2.1, .inl o.2.2.2.2.1, .inl o.2.2.2.2.2.1, .inl o.2.2.2.2.2.2.1] [g0, o.2.2.2.2.2.2.2.1, o.2.2.2.2.2.2.2.2] := zv_meth (K := (z_KF13, z_KC13, z_KL13, z_KT13, [], [], [], none)) (FT := z_FT) (MT := z_MT) (n := 1) zxp220 (z_ks13 _ (fun _ h => List.mem_cons_of_mem _ h) _ _ _ _ (fun j r h _ => by cases h)) (fun _ _ => zs_KX_p) zyw_M_readsSum (fun va F G h => by obtain ⟨rfl, _⟩ := h; rfl) (fun va F G h => by obtain ⟨rfl, _⟩ := h; rfl) rfl fun good va F G hB hret hvret hP => by
  obtain ⟨rfl, rfl, rfl⟩ := hP
  have l0 : ∀ (n : Nat) (x1 : Int) (f0 : Int) (f1 : Int) (f3 : Int) (f4 : Int) (f5 : Int) (f6 : Int) (g1 : (Int → Int)) (g2 : (Int → Int)) (q : ((Int × Int × Int × Int × Int × Int × (Int → Int) × (Int → Int)) ⊕ (Int × Int × Int × Int × Int × Int × Int × (Int → Int) × (Int → Int)))), zf_M_readsSum_l0 x1 f2 g0 n f0 f1 f3 f4 f5 f6 g1 g2 = some q → (Sum.elim (fun e : Int × Int × Int × Int × Int × Int × (Int → Int) × (Int → Int) => good 138 [.inr 0, .inl x1, .inr 1000] [] [.inl e.1, .inl e.2.1, .inl f2, .inl e.2.2.1, .inl e.2.2.2.1, .inl e.2.2.2.2.1, .inl e.2.2.2.2.2.1] [g0, e.2.2.2.2.2.2.1, e.2.2.2.2.2.2.2]) (fun w : Int × Int × Int × Int × Int × Int × Int × (Int → Int) × (Int → Int) => w = o) q) → good 14 [.inr 0, .inl x1, .inr 1000] [] [.inl f0, .inl f1, .inl f2, .inl f3, .inl f4, .inl f5, .inl f6] [g0, g1, g2] := by
    intro n
    induction n with
    | zero => intro x1 f0 f1 f3 f4 f5 f6 g1 g2 q h; exact absurd (show none = some q from h) (fun h => by cases h)
    | succ n ih =>
      intro x1 f0 f1 f3 f4 f5 f6 g1 g2 q h hK
      replace h : zf_M_readsSum_l0_b x1 f2 g0 (zf_M_readsSum_l0 x1 f2 g0 n) f0 f1 f3 f4 f5 f6 g1 g2 = some q := h
      unfold zf_M_readsSum_l0_b at h
      refine zv_ald hB zd220_14 rfl rfl rfl ?_
      obtain ⟨r3, hr3, h⟩ := zi_bind h
      refine zv_cv hB (zv_emq (va2 := [.inr 0]) (F := [.inl f0, .inl f1, .inl f2, .inl f3, .inl f4, .inl f5, .inl f6]) (F' := [.inl f0, .inl f1, .inl f2, .inl f3, .inl f4, .inl f5, .inl f6]) (G := [g0, g1, g2]) (G' := [g0, g1, g2]) (ρ := [0, 1]) (φ := [1, 2]) (ψ := [0]) [none, some 0, some 1, none, none, none, none] [some 0, none, none] zyw_M_here zyw_M_readsSum zye_M_readsSum (by decide +kernel) (zt_M_here hr3) ⟨⟨_, rfl, fun _ => rfl⟩, ⟨_, rfl, fun _ => rfl⟩, trivial⟩ ⟨rfl, trivial⟩ rfl rfl rfl rfl rfl rfl rfl) zd220_15 zxt217 rfl (by decide) (by decide) rfl ?_
      obtain ⟨r4, hr4, h⟩ := zi_bind h
      refine zv_cs hB (zv_emq (va2 := [.inl r3]) (F := [.inl f0, .inl f1, .inl f2, .inl f3, .inl f4, .inl f5, .inl f6]) (F' := [.inl f0, .inl f1, .inl f2, .inl f3, .inl f4, .inl f5, .inl f6]) (G := [g0, g1, g2]) (G' := [g0, g1, g2]) (ρ := []) (φ := []) (ψ := []) [none, none, none, none, none, none, none] [none, none, none] zyw_M_sumSign zyw_M_readsSum zye_M_readsSum (by decide +kernel) (zt_M_sumSign hr4) trivial trivial rfl rfl rfl rfl rfl rfl rfl) zd220_18 zxt227 rfl (by decide) (by decide) rfl ?_
      refine zv_ist hB zd220_21 rfl rfl rfl ?_
      refine zv_ild hB zd220_22 rfl rfl ?_
      refine zv_con hB zd220_23 rfl ?_
      refine zv_ceq hB zd220_24 rfl (fun hc5 => ?_) (fun hc5 => ?_)
      · rw [if_pos hc5] at h
        refine zv_ald hB zd220_83 rfl rfl rfl ?_
        obtain ⟨r6, hr6, h⟩ := zi_bind h
        refine zv_cv hB (zv_emq (va2 := [.inr 0]) (F := [.inl f0, .inl f1, .inl f2, .inl f3, .inl f4, .inl f5, .inl f6]) (F' := [.inl f0, .inl f1, .inl f2, .inl f3, .inl f4, .inl f5, .inl f6]) (G := [g0, g1, g2]) (G' := [g0, g1, g2]) (ρ := [0, 1]) (φ := [1, 2]) (ψ := [0]) [none, some 0, some 1, none, none, none, none] [some 0, none, none] zyw_M_here zyw_M_readsSum zye_M_readsSum (by decide +kernel) (zt_M_here hr6) ⟨⟨_, rfl, fun _ => rfl⟩, ⟨_, rfl, fun _ => rfl⟩, trivial⟩ ⟨rfl, trivial⟩ rfl rfl rfl rfl rfl rfl rfl) zd220_84 zxt217 rfl (by decide) (by decide) rfl ?_
        refine zv_con hB zd220_87 rfl ?_
        refine zv_cne hB zd220_89 rfl (fun hc7 => ?_) (fun hc7 => ?_)
        · rw [if_neg hc7] at h
          have hq := Option.some.inj h
          subst hq
          refine zv_wk hB (L' := [.inr 0, .inl x1, .inr 1000]) (F' := [.inl f0, .inl f1, .inl f2, .inl f3, .inl f4, .inl f5, .inl f6]) ⟨fun _ => rfl, fun _ => rfl, fun (h : zv_is (.inr 1000)) => (Nat.lt_irrefl 1000 h).elim, trivial⟩ ⟨fun _ => rfl, fun _ => rfl, fun _ => rfl, fun _ => rfl, fun _ => rfl, fun _ => rfl, fun _ => rfl, trivial⟩ ?_
          exact hK
        · rw [if_pos hc7] at h
          refine zv_ald hB zd220_92 rfl rfl rfl ?_
          refine zv_ild hB zd220_93 rfl rfl ?_
          obtain ⟨r8, hr8, h⟩ := zi_bind h
          refine zv_cv hB (zv_emq (va2 := [.inr 0, .inl x1]) (F := [.inl f0, .inl f1, .inl f2, .inl f3, .inl f4, .inl f5, .inl f6]) (F' := [.inl f0, .inl f1, .inl f2, .inl f3, .inl f4, .inl f5, .inl f6]) (G := [g0, g1, g2]) (G' := [g0, g1, g2]) (ρ := [0, 2]) (φ := [0]) (ψ := [1]) [some 0, none, none, none, none, none, none] [none, some 0, none] zyw_M_hasOpenSum zyw_M_readsSum zye_M_readsSum (by decide +kernel) (zt_M_hasOpenSum hr8) ⟨⟨_, rfl, fun _ => rfl⟩, trivial⟩ ⟨rfl, trivial⟩ rfl rfl rfl rfl rfl rfl rfl) zd220_94 zxt230 rfl (by decide) (by decide) rfl ?_
          refine zv_zeq hB zd220_97 rfl (fun hc9 => ?_) (fun hc9 => ?_)
          · rw [if_pos hc9] at h
            have hq := Option.some.inj h
            subst hq
            refine zv_wk hB (L' := [.inr 0, .inl x1, .inr 1000]) (F' := [.inl f0, .inl f1, .inl f2, .inl f3, .inl f4, .inl f5, .inl f6]) ⟨fun _ => rfl, fun _ => rfl, fun (h : zv_is (.inr 1000)) => (Nat.lt_irrefl 1000 h).elim, trivial⟩ ⟨fun _ => rfl, fun _ => rfl, fun _ => rfl, fun _ => rfl, fun _ => rfl, fun _ => rfl, fun _ => rfl, trivial⟩ ?_
            exact hK
          · rw [if_neg hc9] at h
            refine zv_ald hB zd220_100 rfl rfl rfl ?_
            refine zv_con hB zd220_101 rfl ?_
            obtain ⟨r10, hr10, h⟩ := zi_bind h
            refine zv_cv hB (zv_emq (va2 := [.inr 0, .inl 1]) (F := [.inl f0, .inl f1, .inl f2, .inl f3, .inl f4, .inl f5, .inl f6]) (F' := [.inl r10.1, .inl f1, .inl f2, .inl f3, .inl f4, .inl r10.2.1, .inl f6]) (G := [g0, g1, g2]) (G' := [g0, g1, r10.2.2]) (ρ := [0, 2, 3]) (φ := [0, 5]) (ψ := [1, 2]) [some 0, none, none, none, none, some 1, none] [none, some 0, some 1] zyw_M_closesSums zyw_M_readsSum zye_M_readsSum (by decide +kernel) (zt_M_closesSums hr10) ⟨⟨_, rfl, fun _ => rfl⟩, ⟨_, rfl, fun _ => rfl⟩, trivial⟩ ⟨rfl, rfl, trivial⟩ rfl rfl rfl rfl rfl rfl rfl) zd220_102 zxt228 rfl (by decide) (by decide) rfl ?_
            refine zv_ald hB zd220_105 rfl rfl rfl ?_
            refine zv_ald hB zd220_106 rfl rfl rfl ?_
            refine zv_getf hB zd220_107 rfl rfl (fun _ _ => ?_)
            refine zv_con hB zd220_110 rfl ?_
            refine zv_subw hB zd220_111 ?_
            refine zv_putf hB zd220_112 rfl rfl (fun h => by cases h) rfl ?_
            refine zv_ald hB zd220_115 rfl rfl rfl ?_
            refine zv_ald hB zd220_116 rfl rfl rfl ?_
            refine zv_getf hB zd220_117 rfl rfl (fun _ _ => ?_)
            refine zv_con hB zd220_120 rfl ?_
            refine zv_subw hB zd220_121 ?_
            refine zv_putf hB zd220_122 rfl rfl (fun h => by cases h) rfl ?_
            refine zv_ald hB zd220_125 rfl rfl rfl ?_
            refine zv_ald hB zd220_126 rfl rfl rfl ?_
            refine zv_getf hB zd220_127 rfl rfl (fun _ _ => ?_)
            refine zv_con hB zd220_130 rfl ?_
            refine zv_addw hB zd220_131 ?_
            refine zv_putf hB zd220_132 rfl rfl (fun h => by cases h) rfl ?_
            refine zv_goto hB zd220_135 rfl ?_
            refine zv_goto hB zd220_163 rfl ?_
            refine zv_wk hB (L' := [.inr 0, .inl x1, .inr 1000]) (F' := [.inl (zi_w (r10.1 - 1)), .inl (zi_w (f1 + 1)), .inl f2, .inl (zi_w (f3 - 1)), .inl f4, .inl r10.2.1, .inl f6]) ⟨fun _ => rfl, fun _ => rfl, fun (h : zv_is (.inr 1000)) => (Nat.lt_irrefl 1000 h).elim, trivial⟩ ⟨fun _ => rfl, fun _ => rfl, fun _ => rfl, fun _ => rfl, fun _ => rfl, fun _ => rfl, fun _ => rfl, trivial⟩ ?_
            exact ih _ _ _ _ _ _ _ _ _ q h hK
      · rw [if_neg hc5] at h
        refine zv_ald hB zd220_27 rfl rfl rfl ?_
        refine zv_ild hB zd220_28 rfl rfl ?_
        refine zv_con hB zd220_29 rfl ?_
        refine zv_cge hB zd220_30 rfl (fun hc11 => ?_) (fun hc11 => ?_)
        · rw [if_neg (Int.not_lt.mpr hc11)] at h
          refine zv_con hB zd220_37 rfl ?_
          obtain ⟨r12, hr12, h⟩ := zi_bind h
          refine zv_cv hB (zv_emq (va2 := [.inr 0, .inl 0]) (F := [.inl f0, .inl f1, .inl f2, .inl f3, .inl f4, .inl f5, .inl f6]) (F' := [.inl r12.1, .inl f1, .inl f2, .inl f3, .inl f4, .inl r12.2.1, .inl f6]) (G := [g0, g1, g2]) (G' := [g0, g1, r12.2.2]) (ρ := [0, 2, 3]) (φ := [0, 5]) (ψ := [1, 2]) [some 0, none, none, none, none, some 1, none] [none, some 0, some 1] zyw_M_closesSums zyw_M_readsSum zye_M_readsSum (by decide +kernel) (zt_M_closesSums hr12) ⟨⟨_, rfl, fun _ => rfl⟩, ⟨_, rfl, fun _ => rfl⟩, trivial⟩ ⟨rfl, rfl, trivial⟩ rfl rfl rfl rfl rfl rfl rfl) zd220_38 zxt228 rfl (by decide) (by decide) rfl ?_
          refine zv_ald hB zd220_41 rfl rfl rfl ?_
          refine zv_getr hB zd220_42 rfl ?_
          refine zv_ald hB zd220_45 rfl rfl rfl ?_
          refine zv_getf hB zd220_46 rfl rfl (fun _ _ => ?_)
          refine zv_con (n := 1048576) hB zd220_49 (by decide +kernel) ?_
          refine zv_ild hB zd220_51 rfl rfl ?_
          refine zv_mulw hB zd220_52 ?_
          obtain ⟨c13, h⟩ := zi_if h
          refine zv_iast hB zd220_53 rfl rfl (zi_ix_ok c13).1 (zi_ix_ok c13).2 ?_
          refine zv_ald hB zd220_54 rfl rfl rfl ?_
          refine zv_ald hB zd220_55 rfl rfl rfl ?_
          refine zv_getf hB zd220_56 rfl rfl (fun _ _ => ?_)
          refine zv_con hB zd220_59 rfl ?_
          refine zv_addw hB zd220_60 ?_
          refine zv_putf hB zd220_61 rfl rfl (fun h => by cases h) rfl ?_
          refine zv_ald hB zd220_64 rfl rfl rfl ?_
          refine zv_ald hB zd220_65 rfl rfl rfl ?_
          refine zv_getf hB zd220_66 rfl rfl (fun _ _ => ?_)
          refine zv_con hB zd220_69 rfl ?_
          refine zv_addw hB zd220_70 ?_
          refine zv_putf hB zd220_71 rfl rfl (fun h => by cases h) rfl ?_
          refine zv_ald hB zd220_74 rfl rfl rfl ?_
          obtain ⟨r14, hr14, h⟩ := zi_bind h
          refine zv_cv hB (zv_emq (va2 := [.inr 0]) (F := [.inl (zi_w (r12.1 + 1)), .inl (zi_w (f1 + 1)), .inl f2, .inl f3, .inl f4, .inl r12.2.1, .inl f6]) (F' := [.inl r14.2.2.2.1, .inl r14.2.1, .inl f2, .inl r14.2.2.1, .inl r14.2.2.2.2.1, .inl r14.2.2.2.2.2.1, .inl r14.2.2.2.2.2.2.1]) (G := [g0, (zv_up g1 r12.1 (zi_w (1048576 * r4))), r12.2.2]) (G' := [g0, r14.2.2.2.2.2.2.2.1, r14.2.2.2.2.2.2.2.2]) (ρ := [0, 1, 2, 3]) (φ := [1, 2, 3, 0, 4, 5, 6]) (ψ := [0, 1, 2]) [some 3, some 0, some 1, some 2, some 4, some 5, some 6] [some 0, some 1, some 2] zyw_M_readsFactor zyw_M_readsSum zye_M_readsSum (by decide +kernel) (zt_M_readsFactor hr14) ⟨⟨_, rfl, fun _ => rfl⟩, ⟨_, rfl, fun _ => rfl⟩, ⟨_, rfl, fun _ => rfl⟩, ⟨_, rfl, fun _ => rfl⟩, ⟨_, rfl, fun _ => rfl⟩, ⟨_, rfl, fun _ => rfl⟩, ⟨_, rfl, fun _ => rfl⟩, trivial⟩ ⟨rfl, rfl, rfl, trivial⟩ rfl rfl rfl rfl rfl rfl rfl) zd220_75 zxt221 rfl (by decide) (by decide) rfl ?_
          refine zv_zne hB zd220_78 rfl (fun hc15 => ?_) (fun hc15 => ?_)
          · rw [if_neg hc15] at h
            refine zv_goto hB zd220_163 rfl ?_
            refine zv_wk hB (L' := [.inr 0, .inl x1, .inr 1000]) (F' := [.inl r14.2.2.2.1, .inl r14.2.1, .inl f2, .inl r14.2.2.1, .inl r14.2.2.2.2.1, .inl r14.2.2.2.2.2.1, .inl r14.2.2.2.2.2.2.1]) ⟨fun _ => rfl, fun _ => rfl, fun (h : zv_is (.inr 1000)) => (Nat.lt_irrefl 1000 h).elim, trivial⟩ ⟨fun _ => rfl, fun _ => rfl, fun _ => rfl, fun _ => rfl, fun _ => rfl, fun _ => rfl, fun _ => rfl, trivial⟩ ?_
            exact ih _ _ _ _ _ _ _ _ _ q h hK
          · rw [if_pos hc15] at h
            refine zv_con hB zd220_81 rfl ?_
            have hw : (0, r14.2.2.2.1, r14.2.1, r14.2.2.1, r14.2.2.2.2.1, r14.2.2.2.2.2.1, r14.2.2.2.2.2.2.1, r14.2.2.2.2.2.2.2.1, r14.2.2.2.2.2.2.2.2) = o := zi_rk (Option.some.inj h) hK
            subst hw
            exact hret _ _ _ _ _ zd220_82 (by constructor <;> decide) ⟨rfl, rfl, rfl⟩
        · rw [if_pos hc11] at h
          refine zv_con hB zd220_33 rfl ?_
          refine zv_goto hB zd220_34 rfl ?_
          obtain ⟨r16, hr16, h⟩ := zi_bind h
          refine zv_cv hB (zv_emq (va2 := [.inr 0, .inl 1]) (F := [.inl f0, .inl f1, .inl f2, .inl f3, .inl f4, .inl f5, .inl f6]) (F' := [.inl r16.1, .inl f1, .inl f2, .inl f3, .inl f4, .inl r16.2.1, .inl f6]) (G := [g0, g1, g2]) (G' := [g0, g1, r16.2.2]) (ρ := [0, 2, 3]) (φ := [0, 5]) (ψ := [1, 2]) [some 0, none, none, none, none, some 1, none] [none, some 0, some 1] zyw_M_closesSums zyw_M_readsSum zye_M_readsSum (by decide +kernel) (zt_M_closesSums hr16) ⟨⟨_, rfl, fun _ => rfl⟩, ⟨_, rfl, fun _ => rfl⟩, trivial⟩ ⟨rfl, rfl, trivial⟩ rfl rfl rfl rfl rfl rfl rfl) zd220_38 zxt228 rfl (by decide) (by decide) rfl ?_
          refine zv_ald hB zd220_41 rfl rfl rfl ?_
          refine zv_getr hB zd220_42 rfl ?_
          refine zv_ald hB zd220_45 rfl rfl rfl ?_
          refine zv_getf hB zd220_46 rfl rfl (fun _ _ => ?_)
          refine zv_con (n := 1048576) hB zd220_49 (by decide +kernel) ?_
          refine zv_ild hB zd220_51 rfl rfl ?_
          refine zv_mulw hB zd220_52 ?_
          obtain ⟨c17, h⟩ := zi_if h
          refine zv_iast hB zd220_53 rfl rfl (zi_ix_ok c17).1 (zi_ix_ok c17).2 ?_
          refine zv_ald hB zd220_54 rfl rfl rfl ?_
          refine zv_ald hB zd220_55 rfl rfl rfl ?_
          refine zv_getf hB zd220_56 rfl rfl (fun _ _ => ?_)
          refine zv_con hB zd220_59 rfl ?_
          refine zv_addw hB zd220_60 ?_
          refine zv_putf hB zd220_61 rfl rfl (fun h => by cases h) rfl ?_
          refine zv_ald hB zd220_64 rfl rfl rfl ?_
          refine zv_ald hB zd220_65 rfl rfl rfl ?_
          refine zv_getf hB zd220_66 rfl rfl (fun _ _ => ?_)
          refine zv_con hB zd220_69 rfl ?_
          refine zv_addw hB zd220_70 ?_
          refine zv_putf hB zd220_71 rfl rfl (fun h => by cases h) rfl ?_
          refine zv_ald hB zd220_74 rfl rfl rfl ?_
          obtain ⟨r18, hr18, h⟩ := zi_bind h
          refine zv_cv hB (zv_emq (va2 := [.inr 0]) (F := [.inl (zi_w (r16.1 + 1)), .inl (zi_w (f1 + 1)), .inl f2, .inl f3, .inl f4, .inl r16.2.1, .inl f6]) (F' := [.inl r18.2.2.2.1, .inl r18.2.1, .inl f2, .inl r18.2.2.1, .inl r18.2.2.2.2.1, .inl r18.2.2.2.2.2.1, .inl r18.2.2.2.2.2.2.1]) (G := [g0, (zv_up g1 r16.1 (zi_w (1048576 * r4))), r16.2.2]) (G' := [g0, r18.2.2.2.2.2.2.2.1, r18.2.2.2.2.2.2.2.2]) (ρ := [0, 1, 2, 3]) (φ := [1, 2, 3, 0, 4, 5, 6]) (ψ := [0, 1, 2]) [some 3, some 0, some 1, some 2, some 4, some 5, some 6] [some 0, some 1, some 2] zyw_M_readsFactor zyw_M_readsSum zye_M_readsSum (by decide +kernel) (zt_M_readsFactor hr18) ⟨⟨_, rfl, fun _ => rfl⟩, ⟨_, rfl, fun _ => rfl⟩, ⟨_, rfl, fun _ => rfl⟩, ⟨_, rfl, fun _ => rfl⟩, ⟨_, rfl, fun _ => rfl⟩, ⟨_, rfl, fun _ => rfl⟩, ⟨_, rfl, fun _ => rfl⟩, trivial⟩ ⟨rfl, rfl, rfl, trivial⟩ rfl rfl rfl rfl rfl rfl rfl) zd220_75 zxt221 rfl (by decide) (by decide) rfl ?_
          refine zv_zne hB zd220_78 rfl (fun hc19 => ?_) (fun hc19 => ?_)
          · rw [if_neg hc19] at h
            refine zv_goto hB zd220_163 rfl ?_
            refine zv_wk hB (L' := [.inr 0, .inl x1, .inr 1000]) (F' := [.inl r18.2.2.2.1, .inl r18.2.1, .inl f2, .inl r18.2.2.1, .inl r18.2.2.2.2.1, .inl r18.2.2.2.2.2.1, .inl r18.2.2.2.2.2.2.1]) ⟨fun _ => rfl, fun _ => rfl, fun (h : zv_is (.inr 1000)) => (Nat.lt_irrefl 1000 h).elim, trivial⟩ ⟨fun _ => rfl, fun _ => rfl, fun _ => rfl, fun _ => rfl, fun _ => rfl, fun _ => rfl, fun _ => rfl, trivial⟩ ?_
            exact ih _ _ _ _ _ _ _ _ _ q h hK
          · rw [if_pos hc19] at h
            refine zv_con hB zd220_81 rfl ?_
            have hw : (0, r18.2.2.2.1, r18.2.1, r18.2.2.1, r18.2.2.2.2.1, r18.2.2.2.2.2.1, r18.2.2.2.2.2.2.1, r18.2.2.2.2.2.2.2.1, r18.2.2.2.2.2.2.2.2) = o := zi_rk (Option.some.inj h) hK
            subst hw
            exact hret _ _ _ _ _ zd220_82 (by constructor <;> decide) ⟨rfl, rfl, rfl⟩
  unfold zf_M_readsSum at h
  refine zv_ald hB zd220_0 rfl rfl rfl ?_
  refine zv_getf hB zd220_1 rfl rfl (fun _ _ => ?_)
  refine zv_ist hB zd220_4 rfl rfl rfl ?_
  refine zv_ald hB zd220_5 rfl rfl rfl ?_
  obtain ⟨r1, hr1, h⟩ := zi_bind h
  refine zv_cv hB (zv_emq (va2 := [.inr 0]) (F := [.inl f0, .inl f1, .inl f2, .inl f3, .inl f4, .inl f5, .inl f6]) (F' := [.inl r1.2.2.2.1, .inl r1.2.1, .inl f2, .inl r1.2.2.1, .inl r1.2.2.2.2.1, .inl r1.2.2.2.2.2.1, .inl r1.2.2.2.2.2.2.1]) (G := [g0, g1, g2]) (G' := [g0, r1.2.2.2.2.2.2.2.1, r1.2.2.2.2.2.2.2.2]) (ρ := [0, 1, 2, 3]) (φ := [1, 2, 3, 0, 4, 5, 6]) (ψ := [0, 1, 2]) [some 3, some 0, some 1, some 2, some 4, some 5, some 6] [some 0, some 1, some 2] zyw_M_readsFactor zyw_M_readsSum zye_M_readsSum (by decide +kernel) (zt_M_readsFactor hr1) ⟨⟨_, rfl, fun _ => rfl⟩, ⟨_, rfl, fun _ => rfl⟩, ⟨_, rfl, fun _ => rfl⟩, ⟨_, rfl, fun _ => rfl⟩, ⟨_, rfl, fun _ => rfl⟩, ⟨_, rfl, fun _ => rfl⟩, ⟨_, rfl, fun _ => rfl⟩, trivial⟩ ⟨rfl, rfl, rfl, trivial⟩ rfl rfl rfl rfl rfl rfl rfl) zd220_6 zxt221 rfl (by decide) (by decide) rfl ?_
  refine zv_zne hB zd220_9 rfl (fun hc2 => ?_) (fun hc2 => ?_)
  · rw [if_neg hc2] at h
    obtain ⟨q20, hq20, h⟩ := zi_bind h
    refine l0 _ _ _ _ _ _ _ _ _ _ q20 hq20 ?_
    rcases q20 with e21 | w27
    · replace h := zi_sl h
      show good 138 [.inr 0, .inl f0, .inr 1000] [] [.inl e21.1, .inl e21.2.1, .inl f2, .inl e21.2.2.1, .inl e21.2.2.2.1, .inl e21.2.2.2.2.1, .inl e21.2.2.2.2.2.1] [g0, e21.2.2.2.2.2.2.1, e21.2.2.2.2.2.2.2]
      refine zv_ald hB zd220_138 rfl rfl rfl ?_
      refine zv_ild hB zd220_139 rfl rfl ?_
      obtain ⟨r22, hr22, h⟩ := zi_bind h
      refine zv_cv hB (zv_emq (va2 := [.inr 0, .inl f0]) (F := [.inl e21.1, .inl e21.2.1, .inl f2, .inl e21.2.2.1, .inl e21.2.2.2.1, .inl e21.2.2.2.2.1, .inl e21.2.2.2.2.2.1]) (F' := [.inl e21.1, .inl e21.2.1, .inl f2, .inl e21.2.2.1, .inl e21.2.2.2.1, .inl e21.2.2.2.2.1, .inl e21.2.2.2.2.2.1]) (G := [g0, e21.2.2.2.2.2.2.1, e21.2.2.2.2.2.2.2]) (G' := [g0, e21.2.2.2.2.2.2.1, e21.2.2.2.2.2.2.2]) (ρ := [0, 2]) (φ := [0]) (ψ := [1]) [some 0, none, none, none, none, none, none] [none, some 0, none] zyw_M_hasOpenSum zyw_M_readsSum zye_M_readsSum (by decide +kernel) (zt_M_hasOpenSum hr22) ⟨⟨_, rfl, fun _ => rfl⟩, trivial⟩ ⟨rfl, trivial⟩ rfl rfl rfl rfl rfl rfl rfl) zd220_140 zxt230 rfl (by decide) (by decide) rfl ?_
      refine zv_zeq hB zd220_143 rfl (fun hc23 => ?_) (fun hc23 => ?_)
      · rw [if_pos hc23] at h
        refine zv_ald hB zd220_156 rfl rfl rfl ?_
        refine zv_con hB zd220_157 rfl ?_
        obtain ⟨r24, hr24, h⟩ := zi_bind h
        refine zv_cv hB (zv_emq (va2 := [.inr 0, .inl 1]) (F := [.inl e21.1, .inl e21.2.1, .inl f2, .inl e21.2.2.1, .inl e21.2.2.2.1, .inl e21.2.2.2.2.1, .inl e21.2.2.2.2.2.1]) (F' := [.inl r24.1, .inl e21.2.1, .inl f2, .inl e21.2.2.1, .inl e21.2.2.2.1, .inl r24.2.1, .inl e21.2.2.2.2.2.1]) (G := [g0, e21.2.2.2.2.2.2.1, e21.2.2.2.2.2.2.2]) (G' := [g0, e21.2.2.2.2.2.2.1, r24.2.2]) (ρ := [0, 2, 3]) (φ := [0, 5]) (ψ := [1, 2]) [some 0, none, none, none, none, some 1, none] [none, some 0, some 1] zyw_M_closesSums zyw_M_readsSum zye_M_readsSum (by decide +kernel) (zt_M_closesSums hr24) ⟨⟨_, rfl, fun _ => rfl⟩, ⟨_, rfl, fun _ => rfl⟩, trivial⟩ ⟨rfl, rfl, trivial⟩ rfl rfl rfl rfl rfl rfl rfl) zd220_158 zxt228 rfl (by decide) (by decide) rfl ?_
        refine zv_con hB zd220_161 rfl ?_
        have hw := Option.some.inj h
        subst hw
        exact hret _ _ _ _ _ zd220_162 (by constructor <;> decide) ⟨rfl, rfl, rfl⟩
      · rw [if_neg hc23] at h
        refine zv_ald hB zd220_146 rfl rfl rfl ?_
        refine zv_con hB zd220_147 rfl ?_
        refine zv_ald hB zd220_148 rfl rfl rfl ?_
        refine zv_getf hB zd220_149 rfl rfl (fun _ _ => ?_)
        obtain ⟨r25, hr25, h⟩ := zi_bind h
        refine zv_cv hB (zv_emq (va2 := [.inr 0, .inl 1, .inl e21.2.1]) (F := [.inl e21.1, .inl e21.2.1, .inl f2, .inl e21.2.2.1, .inl e21.2.2.2.1, .inl e21.2.2.2.2.1, .inl e21.2.2.2.2.2.1]) (F' := [.inl e21.1, .inl e21.2.1, .inl f2, .inl e21.2.2.1, .inl r25.2, .inl e21.2.2.2.2.1, .inl e21.2.2.2.2.2.1]) (G := [g0, e21.2.2.2.2.2.2.1, e21.2.2.2.2.2.2.2]) (G' := [g0, e21.2.2.2.2.2.2.1, e21.2.2.2.2.2.2.2]) (ρ := [0]) (φ := [4]) (ψ := []) [none, none, none, none, some 0, none, none] [none, none, none] zyw_M_wrongAt zyw_M_readsSum zye_M_readsSum (by decide +kernel) (zt_M_wrongAt hr25) ⟨⟨_, rfl, fun _ => rfl⟩, trivial⟩ trivial rfl rfl rfl rfl rfl rfl rfl) zd220_152 zxt219 rfl (by decide) (by decide) rfl ?_
        obtain ⟨c26, h⟩ := zi_if h
        have hw := Option.some.inj h
        subst hw
        exact hret _ _ _ _ _ zd220_155 (zi_bo_ok c26) ⟨rfl, rfl, rfl⟩
    · exact Option.some.inj h
  · rw [if_pos hc2] at h
    refine zv_con hB zd220_12 rfl ?_
    have hw := Option.some.inj h
    subst hw
    exact hret _ _ _ _ _ zd220_13 (by constructor <;> decide) ⟨rfl, rfl, rfl⟩
/-! M_endsPiece ()V -/
-- names: 0 StarTalesModel('arg', 0), 1 (0, 220)(0, 12, 15), 2 (0, 220)(0, 12, 14)
-- fields: f0 = 0.waiting_, f1 = 0.codeMany_, f2 = 0.open_; arrays: g0 = 1, g1 = 2; out: [('f', 0), ('f', 1), ('f', 2), ('g', 1)]
abbrev zy_M_endsPiece : zNL := (3, [(0, 12)], [(0, 12, 10, 0), (0, 12, 9, 1), (0, 12, 8, 2)], [(0, 12, 15, 1), (0, 12, 14, 2)], [(1, 0, 220, 0), (2, 0, 220, 1)])
theorem zyw_M_endsPiece : zv_wf zy_M_endsPiece = true := by decide +kernel
theorem zye_M_endsPiece : zv_ek2 zy_M_endsPiece = true := by decide +kernel
def zf_M_endsPiece_l0_b (g0 : (Int → Int)) (rec : Int → Int → Int → (Int → Int) → Option (Int × Int × Int × (Int → Int))) (f0 : Int) (f1 : Int) (f2 : Int) (g1 : (Int → Int)) : Option (Int × Int × Int × (Int → Int)) := (zf_M_waitTop f0 g0).bind fun r1 => (if r1 = 10 then ((zf_M_notes 10 0 f1 g1).bind fun r3 => (rec (zi_w (f0 - 1)) r3.1 (zi_w (f2 - 1)) r3.2)) else (some (f0, f1, f2, g1)))
def zf_M_endsPiece_l0 (g0 : (Int → Int)) : Nat → Int → Int → Int → (Int → Int) → Option (Int × Int × Int × (Int → Int))
  | 0, _, _, _, _ => none
  | n + 1, f0, f1, f2, g1 => zf_M_endsPiece_l0_b g0 (zf_M_endsPiece_l0 g0 n) f0 f1 f2 g1
def zf_M_endsPiece (f0 : Int) (f1 : Int) (f2 : Int) (g0 : (Int → Int)) (g1 : (Int → Int)) : Option (Int × Int × Int × (Int → Int)) := (zf_M_endsPiece_l0 g0 zi_fu f0 f1 f2 g1).bind fun q4 => (some (q4.1, q4.2.1, q4.2.2.1, q4.2.2.2))
theorem zd233_0 : decode zxm233.2.1 0 = .ok (.aload_n 0, 1) := by decide +kernel
theorem zd233_1 : decode zxm233.2.1 1 = .ok (.invokevirtual 209, 3) := by decide +kernel
theorem zd233_4 : decode zxm233.2.1 4 = .ok (.bipush 10, 2) := by decide +kernel
theorem zd233_6 : decode zxm233.2.1 6 = .ok (.if_icmp .ne 33, 3) := by decide +kernel
theorem zd233_9 : decode zxm233.2.1 9 = .ok (.aload_n 0, 1) := by decide +kernel
theorem zd233_10 : decode zxm233.2.1 10 = .ok (.bipush 10, 2) := by decide +kernel
theorem zd233_12 : decode zxm233.2.1 12 = .ok (.iconst 0, 1) := by decide +kernel
theorem zd233_13 : decode zxm233.2.1 13 = .ok (.invokevirtual 212, 3) := by decide +kernel
theorem zd233_16 : decode zxm233.2.1 16 = .ok (.aload_n 0, 1) := by decide +kernel
theorem zd233_17 : decode zxm233.2.1 17 = .ok (.aload_n 0, 1) := by decide +kernel
theorem zd233_18 : decode zxm233.2.1 18 = .ok (.getfield 206, 3) := by decide +kernel
theorem zd233_21 : decode zxm233.2.1 21 = .ok (.iconst 1, 1) := by decide +kernel
theorem zd233_22 : decode zxm233.2.1 22 = .ok (.isub, 1) := by decide +kernel
theorem zd233_23 : decode zxm233.2.1 23 = .ok (.putfield 206, 3) := by decide +kernel
theorem zd233_26 : decode zxm233.2.1 26 = .ok (.aload_n 0, 1) := by decide +kernel
theorem zd233_27 : decode zxm233.2.1 27 = .ok (.aload_n 0, 1) := by decide +kernel
theorem zd233_28 : decode zxm233.2.1 28 = .ok (.getfield 203, 3) := by decide +kernel
theorem zd233_31 : decode zxm233.2.1 31 = .ok (.iconst 1, 1) := by decide +kernel
theorem zd233_32 : decode zxm233.2.1 32 = .ok (.isub, 1) := by decide +kernel
theorem zd233_33 : decode zxm233.2.1 33 = .ok (.putfield 203, 3) := by decide +kernel
theorem zd233_36 : decode zxm233.2.1 36 = .ok (.goto (-36), 3) := by decide +kernel
theorem zd233_39 : decode zxm233.2.1 39 = .ok (.return_, 1) := by decide +kernel
theorem zt_M_endsPiece {f0 : Int} {f1 : Int} {f2 : Int} {g0 : (Int → Int)} {g1 : (Int → Int)} {o : Int × Int × Int × (Int → Int)} (h : zf_M_endsPiece f0 f1 f2 g0 g1 = some o) : zv_Fn z_TB z_cl z_KX zy_M_endsPiece zxm233 (1, 60) [.inr 0] [.inl f0, .inl f1, .inl f2] [g0, g1] none [.inl o.1, .inl o.2.1, .inl o.2.2.1] [g0, o.2.2.2] := zv_meth (K := (z_KF13, z_KC13, z_KL13, z_KT13, [], [], [], none)) (FT := z_FT) (MT := z_MT) (n := 1) zxp233 (z_ks13 _ (fun _ h => List.mem_cons_of_mem _ h) _ _ _ _ (fun j r h _ => by cases h)) (fun _ _ => zs_KX_p) zyw_M_endsPiece (fun va F G h => by obtain ⟨rfl, _⟩ := h; rfl) (fun va F G h => by obtain ⟨rfl, _⟩ := h; rfl) rfl fun good va F G hB hret hvret hP => by
  obtain ⟨rfl, rfl, rfl⟩ := hP
  have l0 : ∀ (n : Nat) (f0 : Int) (f1 : Int) (f2 : Int) (g1 : (Int → Int)) (q : Int × Int × Int × (Int → Int)), zf_M_endsPiece_l0 g0 n f0 f1 f2 g1 = some q → (good 39 [.inr 1000] [] [.inl q.1, .inl q.2.1, .inl q.2.2.1] [g0, q.2.2.2]) → good 0 [.inr 0] [] [.inl f0, .inl f1, .inl f2] [g0, g1] := by
    intro n
    induction n with
    | zero => intro f0 f1 f2 g1 q h; exact absurd (show none = some q from h) (fun h => by cases h)
    | succ n ih =>
      intro f0 f1 f2 g1 q h hK
      replace h : zf_M_endsPiece_l0_b g0 (zf_M_endsPiece_l0 g0 n) f0 f1 f2 g1 = some q := h
      unfold zf_M_endsPiece_l0_b at h
      refine zv_ald hB zd233_0 rfl rfl rfl ?_
      obtain ⟨r1, hr1, h⟩ := zi_bind h
      refine zv_cv hB (zv_emq (va2 := [.inr 0]) (F := [.inl f0, .inl f1, .inl f2]) (F' := [.inl f0, .inl f1, .inl f2]) (G := [g0, g1]) (G' := [g0, g1]) (ρ := [0, 1]) (φ := [0]) (ψ := [0]) [some 0, none, none] [some 0, none] zyw_M_waitTop zyw_M_endsPiece zye_M_endsPiece (by decide +kernel) (zt_M_waitTop hr1) ⟨⟨_, rfl, fun _ => rfl⟩, trivial⟩ ⟨rfl, trivial⟩ rfl rfl rfl rfl rfl rfl rfl) zd233_1 zxt229 rfl (by decide) (by decide) rfl ?_
      refine zv_con hB zd233_4 rfl ?_
      refine zv_cne hB zd233_6 rfl (fun hc2 => ?_) (fun hc2 => ?_)
      · rw [if_neg hc2] at h
        have hq := Option.some.inj h
        subst hq
        refine zv_wk hB (L' := [.inr 1000]) (F' := [.inl f0, .inl f1, .inl f2]) ⟨fun (h : zv_is (.inr 1000)) => (Nat.lt_irrefl 1000 h).elim, trivial⟩ ⟨fun _ => rfl, fun _ => rfl, fun _ => rfl, trivial⟩ ?_
        exact hK
      · rw [if_pos hc2] at h
        refine zv_ald hB zd233_9 rfl rfl rfl ?_
        refine zv_con hB zd233_10 rfl ?_
        refine zv_con hB zd233_12 rfl ?_
        obtain ⟨r3, hr3, h⟩ := zi_bind h
        refine zv_cv hB (zv_emq (va2 := [.inr 0, .inl 10, .inl 0]) (F := [.inl f0, .inl f1, .inl f2]) (F' := [.inl f0, .inl r3.1, .inl f2]) (G := [g0, g1]) (G' := [g0, r3.2]) (ρ := [0, 2]) (φ := [1]) (ψ := [1]) [none, some 0, none] [none, some 0] zyw_M_notes zyw_M_endsPiece zye_M_endsPiece (by decide +kernel) (zt_M_notes hr3) ⟨⟨_, rfl, fun _ => rfl⟩, trivial⟩ ⟨rfl, trivial⟩ rfl rfl rfl rfl rfl rfl rfl) zd233_13 zxt225 rfl (by decide) (by decide) rfl ?_
        refine zv_ald hB zd233_16 rfl rfl rfl ?_
        refine zv_ald hB zd233_17 rfl rfl rfl ?_
        refine zv_getf hB zd233_18 rfl rfl (fun _ _ => ?_)
        refine zv_con hB zd233_21 rfl ?_
        refine zv_subw hB zd233_22 ?_
        refine zv_putf hB zd233_23 rfl rfl (fun h => by cases h) rfl ?_
        refine zv_ald hB zd233_26 rfl rfl rfl ?_
        refine zv_ald hB zd233_27 rfl rfl rfl ?_
        refine zv_getf hB zd233_28 rfl rfl (fun _ _ => ?_)
        refine zv_con hB zd233_31 rfl ?_
        refine zv_subw hB zd233_32 ?_
        refine zv_putf hB zd233_33 rfl rfl (fun h => by cases h) rfl ?_
        refine zv_goto hB zd233_36 rfl ?_
        exact ih _ _ _ _ q h hK
  unfold zf_M_endsPiece at h
  obtain ⟨q4, hq4, h⟩ := zi_bind h
  refine l0 _ _ _ _ _ q4 hq4 ?_
  show good 39 [.inr 1000] [] [.inl q4.1, .inl q4.2.1, .inl q4.2.2.1] [g0, q4.2.2.2]
  have hw := Option.some.inj h
  subst hw
  exact hvret _ _ _ _ zd233_39 trivial ⟨rfl, rfl, rfl⟩
end
section
/-! Methods as functions, and that they do what these do. -/
/-! M_readsCompared ()Z -/
-- names: 0 StarTalesModel('arg', 0), 1 (1, 220)(0, 12, 3), 2 (0, 220)(0, 12, 15), 3 (0, 220)(0, 12, 14)
-- fields: f0 = 0.waiting_, f1 = 0.place0_, f2 = 0.length0_, f3 = 0.open_, f4 = 0.fault_, f5 = 0.codeMany_, f6 = 0.number0_; arrays: g0 = 1, g1 = 2, g2 = 3; out: [('ret', None), ('f', 0), ('f', 1), ('f', 3), ('f', 4), ('f', 5), ('f', 6), ('g', 1), ('g', 2)]
abbrev zy_M_readsCompared : zNL := (4, [(0, 12)], [(0, 12, 10, 0), (0, 12, 5, 1), (0, 12, 6, 2), (0, 12, 8, 3), (0, 12, 7, 4), (0, 12, 9, 5), (0, 12, 12, 6)], [(0, 12, 3, 1), (0, 12, 15, 2), (0, 12, 14, 3)], [(1, 1, 220, 0), (2, 0, 220, 1), (3, 0, 220, 2)])
theorem zyw_M_readsCompared : zv_wf zy_M_readsCompared = true := by decide +kernel
theorem zye_M_readsCompared : zv_ek2 zy_M_readsCompared = true := by decide +kernel
def zf_M_readsCompared (f0 : Int) (f1 : Int) (f2 : Int) (f3 : Int) (f4 : Int) (f5 : Int) (f6 : Int) (g0 : (Int → Int)) (g1 : (Int → Int)) (g2 : (Int → Int)) : Option (Int × Int × Int × Int × Int × Int × Int × (Int → Int) × (Int → Int)) := (zf_M_readsSum f0 f1 f2 f3 f4 f5 f6 g0 g1 g2).bind fun r1 => (if r1.1 = 0 then (some (0, r1.2.1, r1.2.2.1, r1.2.2.2.1, r1.2.2.2.2.1, r1.2.2.2.2.2.1, r1.2.2.2.2.2.2.1, r1.2.2.2.2.2.2.2.1, r1.2.2.2.2.2.2.2.2)) else ((zf_M_here r1.2.2.1 f2 g0).bind fun r3 => (if r3 = 60 then ((zf_M_readsSum r1.2.1 (zi_w (r1.2.2.1 + 1)) f2 r1.2.2.2.1 r1.2.2.2.2.1 r1.2.2.2.2.2.1 r1.2.2.2.2.2.2.1 g0 r1.2.2.2.2.2.2.2.1 r1.2.2.2.2.2.2.2.2).bind fun r23 => (if r23.1 = 0 then (some (0, r23.2.1, r23.2.2.1, r23.2.2.2.1, r23.2.2.2.2.1, r23.2.2.2.2.2.1, r23.2.2.2.2.2.2.1, r23.2.2.2.2.2.2.2.1, r23.2.2.2.2.2.2.2.2)) else ((zf_M_notes 7 0 r23.2.2.2.2.2.1 r23.2.2.2.2.2.2.2.2).bind fun r25 => ((zf_M_endsPiece r23.2.1 r25.1 r23.2.2.2.1 r23.2.2.2.2.2.2.2.1 r25.2).bind fun r26 => (some (1, r26.1, r23.2.2.1, r26.2.2.1, r23.2.2.2.2.1, r26.2.1, r23.2.2.2.2.2.2.1, r23.2.2.2.2.2.2.2.1, r26.2.2.2)))))) else ((zf_M_here r1.2.2.1 f2 g0).bind fun r5 => (if r5 = 62 then ((zf_M_readsSum r1.2.1 (zi_w (r1.2.2.1 + 1)) f2 r1.2.2.2.1 r1.2.2.2.2.1 r1.2.2.2.2.2.1 r1.2.2.2.2.2.2.1 g0 r1.2.2.2.2.2.2.2.1 r1.2.2.2.2.2.2.2.2).bind fun r18 => (if r18.1 = 0 then (some (0, r18.2.1, r18.2.2.1, r18.2.2.2.1, r18.2.2.2.2.1, r18.2.2.2.2.2.1, r18.2.2.2.2.2.2.1, r18.2.2.2.2.2.2.2.1, r18.2.2.2.2.2.2.2.2)) else ((zf_M_notes 8 0 r18.2.2.2.2.2.1 r18.2.2.2.2.2.2.2.2).bind fun r20 => ((zf_M_endsPiece r18.2.1 r20.1 r18.2.2.2.1 r18.2.2.2.2.2.2.2.1 r20.2).bind fun r21 => (some (1, r21.1, r18.2.2.1, r21.2.2.1, r18.2.2.2.2.1, r21.2.1, r18.2.2.2.2.2.2.1, r18.2.2.2.2.2.2.2.1, r21.2.2.2)))))) else ((zf_M_here r1.2.2.1 f2 g0).bind fun r7 => (if r7 = 61 then ((zf_M_readsSum r1.2.1 (zi_w (r1.2.2.1 + 1)) f2 r1.2.2.2.1 r1.2.2.2.2.1 r1.2.2.2.2.2.1 r1.2.2.2.2.2.2.1 g0 r1.2.2.2.2.2.2.2.1 r1.2.2.2.2.2.2.2.2).bind fun r13 => (if r13.1 = 0 then (some (0, r13.2.1, r13.2.2.1, r13.2.2.2.1, r13.2.2.2.2.1, r13.2.2.2.2.2.1, r13.2.2.2.2.2.2.1, r13.2.2.2.2.2.2.2.1, r13.2.2.2.2.2.2.2.2)) else ((zf_M_notes 9 0 r13.2.2.2.2.2.1 r13.2.2.2.2.2.2.2.2).bind fun r15 => ((zf_M_endsPiece r13.2.1 r15.1 r13.2.2.2.1 r13.2.2.2.2.2.2.2.1 r15.2).bind fun r16 => (some (1, r16.1, r13.2.2.1, r16.2.2.1, r13.2.2.2.2.1, r16.2.1, r13.2.2.2.2.2.2.1, r13.2.2.2.2.2.2.2.1, r16.2.2.2)))))) else ((zf_M_wrongAt 1 r1.2.2.1 r1.2.2.2.2.1).bind fun r10 => (cond (zi_bo r10.1) (some (r10.1, r1.2.1, r1.2.2.1, r1.2.2.2.1, r10.2, r1.2.2.2.2.2.1, r1.2.2.2.2.2.2.1, r1.2.2.2.2.2.2.2.1, r1.2.2.2.2.2.2.2.2)) none)))))))))
theorem zd232_0 : decode zxm232.2.1 0 = .ok (.aload_n 0, 1) := by decide +kernel
theorem zd232_1 : decode zxm232.2.1 1 = .ok (.invokevirtual 238, 3) := by decide +kernel
theorem zd232_4 : decode zxm232.2.1 4 = .ok (.ifCond .ne 5, 3) := by decide +kernel
theorem zd232_7 : decode zxm232.2.1 7 = .ok (.iconst 0, 1) := by decide +kernel
theorem zd232_8 : decode zxm232.2.1 8 = .ok (.ireturn, 1) := by decide +kernel
theorem zd232_9 : decode zxm232.2.1 9 = .ok (.aload_n 0, 1) := by decide +kernel
theorem zd232_10 : decode zxm232.2.1 10 = .ok (.invokevirtual 182, 3) := by decide +kernel
theorem zd232_13 : decode zxm232.2.1 13 = .ok (.bipush 60, 2) := by decide +kernel
theorem zd232_15 : decode zxm232.2.1 15 = .ok (.if_icmp .ne 8, 3) := by decide +kernel
theorem zd232_18 : decode zxm232.2.1 18 = .ok (.bipush 7, 2) := by decide +kernel
theorem zd232_20 : decode zxm232.2.1 20 = .ok (.goto 32, 3) := by decide +kernel
theorem zd232_23 : decode zxm232.2.1 23 = .ok (.aload_n 0, 1) := by decide +kernel
theorem zd232_24 : decode zxm232.2.1 24 = .ok (.invokevirtual 182, 3) := by decide +kernel
theorem zd232_27 : decode zxm232.2.1 27 = .ok (.bipush 62, 2) := by decide +kernel
theorem zd232_29 : decode zxm232.2.1 29 = .ok (.if_icmp .ne 8, 3) := by decide +kernel
theorem zd232_32 : decode zxm232.2.1 32 = .ok (.bipush 8, 2) := by decide +kernel
theorem zd232_34 : decode zxm232.2.1 34 = .ok (.goto 18, 3) := by decide +kernel
theorem zd232_37 : decode zxm232.2.1 37 = .ok (.aload_n 0, 1) := by decide +kernel
theorem zd232_38 : decode zxm232.2.1 38 = .ok (.invokevirtual 182, 3) := by decide +kernel
theorem zd232_41 : decode zxm232.2.1 41 = .ok (.bipush 61, 2) := by decide +kernel
theorem zd232_43 : decode zxm232.2.1 43 = .ok (.if_icmp .ne 8, 3) := by decide +kernel
theorem zd232_46 : decode zxm232.2.1 46 = .ok (.bipush 9, 2) := by decide +kernel
theorem zd232_48 : decode zxm232.2.1 48 = .ok (.goto 4, 3) := by decide +kernel
theorem zd232_51 : decode zxm232.2.1 51 = .ok (.iconst (-1), 1) := by decide +kernel
theorem zd232_52 : decode zxm232.2.1 52 = .ok (.istore_n 1, 1) := by decide +kernel
theorem zd232_53 : decode zxm232.2.1 53 = .ok (.iload_n 1, 1) := by decide +kernel
theorem zd232_54 : decode zxm232.2.1 54 = .ok (.iconst (-1), 1) := by decide +kernel
theorem zd232_55 : decode zxm232.2.1 55 = .ok (.if_icmp .ne 13, 3) := by decide +kernel
theorem zd232_58 : decode zxm232.2.1 58 = .ok (.aload_n 0, 1) := by decide +kernel
theorem zd232_59 : decode zxm232.2.1 59 = .ok (.iconst 1, 1) := by decide +kernel
theorem zd232_60 : decode zxm232.2.1 60 = .ok (.aload_n 0, 1) := by decide +kernel
theorem zd232_61 : decode zxm232.2.1 61 = .ok (.getfield 176, 3) := by decide +kernel
theorem zd232_64 : decode zxm232.2.1 64 = .ok (.invokevirtual 189, 3) := by decide +kernel
theorem zd232_67 : decode zxm232.2.1 67 = .ok (.ireturn, 1) := by decide +kernel
theorem zd232_68 : decode zxm232.2.1 68 = .ok (.aload_n 0, 1) := by decide +kernel
theorem zd232_69 : decode zxm232.2.1 69 = .ok (.aload_n 0, 1) := by decide +kernel
theorem zd232_70 : decode zxm232.2.1 70 = .ok (.getfield 176, 3) := by decide +kernel
theorem zd232_73 : decode zxm232.2.1 73 = .ok (.iconst 1, 1) := by decide +kernel
theorem zd232_74 : decode zxm232.2.1 74 = .ok (.iadd, 1) := by decide +kernel
theorem zd232_75 : decode zxm232.2.1 75 = .ok (.putfield 176, 3) := by decide +kernel
theorem zd232_78 : decode zxm232.2.1 78 = .ok (.aload_n 0, 1) := by decide +kernel
theorem zd232_79 : decode zxm232.2.1 79 = .ok (.invokevirtual 238, 3) := by decide +kernel
theorem zd232_82 : decode zxm232.2.1 82 = .ok (.ifCond .ne 5, 3) := by decide +kernel
theorem zd232_85 : decode zxm232.2.1 85 = .ok (.iconst 0, 1) := by decide +kernel
theorem zd232_86 : decode zxm232.2.1 86 = .ok (.ireturn, 1) := by decide +kernel
theorem zd232_87 : decode zxm232.2.1 87 = .ok (.aload_n 0, 1) := by decide +kernel
theorem zd232_88 : decode zxm232.2.1 88 = .ok (.iload_n 1, 1) := by decide +kernel
theorem zd232_89 : decode zxm232.2.1 89 = .ok (.iconst 0, 1) := by decide +kernel
theorem zd232_90 : decode zxm232.2.1 90 = .ok (.invokevirtual 212, 3) := by decide +kernel
theorem zd232_93 : decode zxm232.2.1 93 = .ok (.aload_n 0, 1) := by decide +kernel
theorem zd232_94 : decode zxm232.2.1 94 = .ok (.invokevirtual 241, 3) := by decide +kernel
theorem zd232_97 : decode zxm232.2.1 97 = .ok (.iconst 1, 1) := by decide +kernel
theorem zd232_98 : decode zxm232.2.1 98 = .ok (.ireturn, 1) := by decide +kernel
theorem zt_M_readsCompared {f0 : Int} {f1 : Int} {f2 : Int} {f3 : Int} {f4 : Int} {f5 : Int} {f6 : Int} {g0 : (Int → Int)} {g1 : (Int → Int)} {g2 : (Int → Int)} {o : Int × Int × Int × Int × Int × Int × Int × (Int → Int) × (Int → Int)} (h : zf_M_readsCompared f0 f1 f2 f3 f4 f5 f6 g0 g1 g2 = some o) : zv_Fn z_TB z_cl z_KX zy_M_readsCompared zxm232 (5, 300) [.inr 0] [.inl f0, .inl f1, .inl f2, .inl f3, .inl f4, .inl f5, .inl f6] [g0, g1, g2] (some o.1) [.inl o.2.1, .inl o.2.2.1, .inl f2, .inl o.2.2.2.1, .inl o.2.2.2.2.1, .inl o.2.2.2.2.2.1, .inl o.2.2.2.2.2.2.1] [g0, o.2.2.2.2.2.2.2.1, o.2.2.2.2.2.2.2.2] := zv_meth (K := (z_KF13, z_KC13, z_KL13, z_KT13, [], [], [], none)) (FT := z_FT) (MT := z_MT) (n := 1) zxp232 (z_ks13 _ (fun _ h => List.mem_cons_of_mem _ h) _ _ _ _ (fun j r h _ => by cases h)) (fun _ _ => zs_KX_p) zyw_M_readsCompared (fun va F G h => by obtain ⟨rfl, _⟩ := h; rfl) (fun va F G h => by obtain ⟨rfl, _⟩ := h; rfl) rfl fun good va F G hB hret hvret hP => by
  obtain ⟨rfl, rfl, rfl⟩ := hP
  unfold zf_M_readsCompared at h
  refine zv_ald hB zd232_0 rfl rfl rfl ?_
  obtain ⟨r1, hr1, h⟩ := zi_bind h
  refine zv_cv hB (zv_emq (va2 := [.inr 0]) (F := [.inl f0, .inl f1, .inl f2, .inl f3, .inl f4, .inl f5, .inl f6]) (F' := [.inl r1.2.1, .inl r1.2.2.1, .inl f2, .inl r1.2.2.2.1, .inl r1.2.2.2.2.1, .inl r1.2.2.2.2.2.1, .inl r1.2.2.2.2.2.2.1]) (G := [g0, g1, g2]) (G' := [g0, r1.2.2.2.2.2.2.2.1, r1.2.2.2.2.2.2.2.2]) (ρ := [0, 1, 2, 3]) (φ := [0, 1, 2, 3, 4, 5, 6]) (ψ := [0, 1, 2]) [some 0, some 1, some 2, some 3, some 4, some 5, some 6] [some 0, some 1, some 2] zyw_M_readsSum zyw_M_readsCompared zye_M_readsCompared (by decide +kernel) (zt_M_readsSum hr1) ⟨⟨_, rfl, fun _ => rfl⟩, ⟨_, rfl, fun _ => rfl⟩, ⟨_, rfl, fun _ => rfl⟩, ⟨_, rfl, fun _ => rfl⟩, ⟨_, rfl, fun _ => rfl⟩, ⟨_, rfl, fun _ => rfl⟩, ⟨_, rfl, fun _ => rfl⟩, trivial⟩ ⟨rfl, rfl, rfl, trivial⟩ rfl rfl rfl rfl rfl rfl rfl) zd232_1 zxt220 rfl (by decide) (by decide) rfl ?_
  refine zv_zne hB zd232_4 rfl (fun hc2 => ?_) (fun hc2 => ?_)
  · rw [if_neg hc2] at h
    refine zv_ald hB zd232_9 rfl rfl rfl ?_
    obtain ⟨r3, hr3, h⟩ := zi_bind h
    refine zv_cv hB (zv_emq (va2 := [.inr 0]) (F := [.inl r1.2.1, .inl r1.2.2.1, .inl f2, .inl r1.2.2.2.1, .inl r1.2.2.2.2.1, .inl r1.2.2.2.2.2.1, .inl r1.2.2.2.2.2.2.1]) (F' := [.inl r1.2.1, .inl r1.2.2.1, .inl f2, .inl r1.2.2.2.1, .inl r1.2.2.2.2.1, .inl r1.2.2.2.2.2.1, .inl r1.2.2.2.2.2.2.1]) (G := [g0, r1.2.2.2.2.2.2.2.1, r1.2.2.2.2.2.2.2.2]) (G' := [g0, r1.2.2.2.2.2.2.2.1, r1.2.2.2.2.2.2.2.2]) (ρ := [0, 1]) (φ := [1, 2]) (ψ := [0]) [none, some 0, some 1, none, none, none, none] [some 0, none, none] zyw_M_here zyw_M_readsCompared zye_M_readsCompared (by decide +kernel) (zt_M_here hr3) ⟨⟨_, rfl, fun _ => rfl⟩, ⟨_, rfl, fun _ => rfl⟩, trivial⟩ ⟨rfl, trivial⟩ rfl rfl rfl rfl rfl rfl rfl) zd232_10 zxt217 rfl (by decide) (by decide) rfl ?_
    refine zv_con hB zd232_13 rfl ?_
    refine zv_cne hB zd232_15 rfl (fun hc4 => ?_) (fun hc4 => ?_)
    · rw [if_neg hc4] at h
      refine zv_ald hB zd232_23 rfl rfl rfl ?_
      obtain ⟨r5, hr5, h⟩ := zi_bind h
      refine zv_cv hB (zv_emq (va2 := [.inr 0]) (F := [.inl r1.2.1, .inl r1.2.2.1, .inl f2, .inl r1.2.2.2.1, .inl r1.2.2.2.2.1, .inl r1.2.2.2.2.2.1, .inl r1.2.2.2.2.2.2.1]) (F' := [.inl r1.2.1, .inl r1.2.2.1, .inl f2, .inl r1.2.2.2.1, .inl r1.2.2.2.2.1, .inl r1.2.2.2.2.2.1, .inl r1.2.2.2.2.2.2.1]) (G := [g0, r1.2.2.2.2.2.2.2.1, r1.2.2.2.2.2.2.2.2]) (G' := [g0, r1.2.2.2.2.2.2.2.1, r1.2.2.2.2.2.2.2.2]) (ρ := [0, 1]) (φ := [1, 2]) (ψ := [0]) [none, some 0, some 1, none, none, none, none] [some 0, none, none] zyw_M_here zyw_M_readsCompared zye_M_readsCompared (by decide +kernel) (zt_M_here hr5) ⟨⟨_, rfl, fun _ => rfl⟩, ⟨_, rfl, fun _ => rfl⟩, trivial⟩ ⟨rfl, trivial⟩ rfl rfl rfl rfl rfl rfl rfl) zd232_24 zxt217 rfl (by decide) (by decide) rfl ?_
      refine zv_con hB zd232_27 rfl ?_
      refine zv_cne hB zd232_29 rfl (fun hc6 => ?_) (fun hc6 => ?_)
      · rw [if_neg hc6] at h
        refine zv_ald hB zd232_37 rfl rfl rfl ?_
        obtain ⟨r7, hr7, h⟩ := zi_bind h
        refine zv_cv hB (zv_emq (va2 := [.inr 0]) (F := [.inl r1.2.1, .inl r1.2.2.1, .inl f2, .inl r1.2.2.2.1, .inl r1.2.2.2.2.1, .inl r1.2.2.2.2.2.1, .inl r1.2.2.2.2.2.2.1]) (F' := [.inl r1.2.1, .inl r1.2.2.1, .inl f2, .inl r1.2.2.2.1, .inl r1.2.2.2.2.1, .inl r1.2.2.2.2.2.1, .inl r1.2.2.2.2.2.2.1]) (G := [g0, r1.2.2.2.2.2.2.2.1, r1.2.2.2.2.2.2.2.2]) (G' := [g0, r1.2.2.2.2.2.2.2.1, r1.2.2.2.2.2.2.2.2]) (ρ := [0, 1]) (φ := [1, 2]) (ψ := [0]) [none, some 0, some 1, none, none, none, none] [some 0, none, none] zyw_M_here zyw_M_readsCompared zye_M_readsCompared (by decide +kernel) (zt_M_here hr7) ⟨⟨_, rfl, fun _ => rfl⟩, ⟨_, rfl, fun _ => rfl⟩, trivial⟩ ⟨rfl, trivial⟩ rfl rfl rfl rfl rfl rfl rfl) zd232_38 zxt217 rfl (by decide) (by decide) rfl ?_
        refine zv_con hB zd232_41 rfl ?_
        refine zv_cne hB zd232_43 rfl (fun hc8 => ?_) (fun hc8 => ?_)
        · rw [if_neg hc8] at h
          refine zv_con hB zd232_51 rfl ?_
          refine zv_ist hB zd232_52 rfl rfl rfl ?_
          refine zv_ild hB zd232_53 rfl rfl ?_
          refine zv_con hB zd232_54 rfl ?_
          refine zv_cne hB zd232_55 rfl (fun hc => absurd hc (by decide)) (fun _ => ?_)
          refine zv_ald hB zd232_58 rfl rfl rfl ?_
          refine zv_con hB zd232_59 rfl ?_
          refine zv_ald hB zd232_60 rfl rfl rfl ?_
          refine zv_getf hB zd232_61 rfl rfl (fun _ _ => ?_)
          obtain ⟨r10, hr10, h⟩ := zi_bind h
          refine zv_cv hB (zv_emq (va2 := [.inr 0, .inl 1, .inl r1.2.2.1]) (F := [.inl r1.2.1, .inl r1.2.2.1, .inl f2, .inl r1.2.2.2.1, .inl r1.2.2.2.2.1, .inl r1.2.2.2.2.2.1, .inl r1.2.2.2.2.2.2.1]) (F' := [.inl r1.2.1, .inl r1.2.2.1, .inl f2, .inl r1.2.2.2.1, .inl r10.2, .inl r1.2.2.2.2.2.1, .inl r1.2.2.2.2.2.2.1]) (G := [g0, r1.2.2.2.2.2.2.2.1, r1.2.2.2.2.2.2.2.2]) (G' := [g0, r1.2.2.2.2.2.2.2.1, r1.2.2.2.2.2.2.2.2]) (ρ := [0]) (φ := [4]) (ψ := []) [none, none, none, none, some 0, none, none] [none, none, none] zyw_M_wrongAt zyw_M_readsCompared zye_M_readsCompared (by decide +kernel) (zt_M_wrongAt hr10) ⟨⟨_, rfl, fun _ => rfl⟩, trivial⟩ trivial rfl rfl rfl rfl rfl rfl rfl) zd232_64 zxt219 rfl (by decide) (by decide) rfl ?_
          obtain ⟨c11, h⟩ := zi_if h
          have hw := Option.some.inj h
          subst hw
          exact hret _ _ _ _ _ zd232_67 (zi_bo_ok c11) ⟨rfl, rfl, rfl⟩
        · rw [if_pos hc8] at h
          refine zv_con hB zd232_46 rfl ?_
          refine zv_goto hB zd232_48 rfl ?_
          refine zv_ist hB zd232_52 rfl rfl rfl ?_
          refine zv_ild hB zd232_53 rfl rfl ?_
          refine zv_con hB zd232_54 rfl ?_
          refine zv_cne hB zd232_55 rfl (fun _ => ?_) (fun hc => absurd hc (by decide))
          refine zv_ald hB zd232_68 rfl rfl rfl ?_
          refine zv_ald hB zd232_69 rfl rfl rfl ?_
          refine zv_getf hB zd232_70 rfl rfl (fun _ _ => ?_)
          refine zv_con hB zd232_73 rfl ?_
          refine zv_addw hB zd232_74 ?_
          refine zv_putf hB zd232_75 rfl rfl (fun h => by cases h) rfl ?_
          refine zv_ald hB zd232_78 rfl rfl rfl ?_
          obtain ⟨r13, hr13, h⟩ := zi_bind h
          refine zv_cv hB (zv_emq (va2 := [.inr 0]) (F := [.inl r1.2.1, .inl (zi_w (r1.2.2.1 + 1)), .inl f2, .inl r1.2.2.2.1, .inl r1.2.2.2.2.1, .inl r1.2.2.2.2.2.1, .inl r1.2.2.2.2.2.2.1]) (F' := [.inl r13.2.1, .inl r13.2.2.1, .inl f2, .inl r13.2.2.2.1, .inl r13.2.2.2.2.1, .inl r13.2.2.2.2.2.1, .inl r13.2.2.2.2.2.2.1]) (G := [g0, r1.2.2.2.2.2.2.2.1, r1.2.2.2.2.2.2.2.2]) (G' := [g0, r13.2.2.2.2.2.2.2.1, r13.2.2.2.2.2.2.2.2]) (ρ := [0, 1, 2, 3]) (φ := [0, 1, 2, 3, 4, 5, 6]) (ψ := [0, 1, 2]) [some 0, some 1, some 2, some 3, some 4, some 5, some 6] [some 0, some 1, some 2] zyw_M_readsSum zyw_M_readsCompared zye_M_readsCompared (by decide +kernel) (zt_M_readsSum hr13) ⟨⟨_, rfl, fun _ => rfl⟩, ⟨_, rfl, fun _ => rfl⟩, ⟨_, rfl, fun _ => rfl⟩, ⟨_, rfl, fun _ => rfl⟩, ⟨_, rfl, fun _ => rfl⟩, ⟨_, rfl, fun _ => rfl⟩, ⟨_, rfl, fun _ => rfl⟩, trivial⟩ ⟨rfl, rfl, rfl, trivial⟩ rfl rfl rfl rfl rfl rfl rfl) zd232_79 zxt220 rfl (by decide) (by decide) rfl ?_
          refine zv_zne hB zd232_82 rfl (fun hc14 => ?_) (fun hc14 => ?_)
          · rw [if_neg hc14] at h
            refine zv_ald hB zd232_87 rfl rfl rfl ?_
            refine zv_ild hB zd232_88 rfl rfl ?_
            refine zv_con hB zd232_89 rfl ?_
            obtain ⟨r15, hr15, h⟩ := zi_bind h
            refine zv_cv hB (zv_emq (va2 := [.inr 0, .inl 9, .inl 0]) (F := [.inl r13.2.1, .inl r13.2.2.1, .inl f2, .inl r13.2.2.2.1, .inl r13.2.2.2.2.1, .inl r13.2.2.2.2.2.1, .inl r13.2.2.2.2.2.2.1]) (F' := [.inl r13.2.1, .inl r13.2.2.1, .inl f2, .inl r13.2.2.2.1, .inl r13.2.2.2.2.1, .inl r15.1, .inl r13.2.2.2.2.2.2.1]) (G := [g0, r13.2.2.2.2.2.2.2.1, r13.2.2.2.2.2.2.2.2]) (G' := [g0, r13.2.2.2.2.2.2.2.1, r15.2]) (ρ := [0, 3]) (φ := [5]) (ψ := [2]) [none, none, none, none, none, some 0, none] [none, none, some 0] zyw_M_notes zyw_M_readsCompared zye_M_readsCompared (by decide +kernel) (zt_M_notes hr15) ⟨⟨_, rfl, fun _ => rfl⟩, trivial⟩ ⟨rfl, trivial⟩ rfl rfl rfl rfl rfl rfl rfl) zd232_90 zxt225 rfl (by decide) (by decide) rfl ?_
            refine zv_ald hB zd232_93 rfl rfl rfl ?_
            obtain ⟨r16, hr16, h⟩ := zi_bind h
            refine zv_cv hB (zv_emq (va2 := [.inr 0]) (F := [.inl r13.2.1, .inl r13.2.2.1, .inl f2, .inl r13.2.2.2.1, .inl r13.2.2.2.2.1, .inl r15.1, .inl r13.2.2.2.2.2.2.1]) (F' := [.inl r16.1, .inl r13.2.2.1, .inl f2, .inl r16.2.2.1, .inl r13.2.2.2.2.1, .inl r16.2.1, .inl r13.2.2.2.2.2.2.1]) (G := [g0, r13.2.2.2.2.2.2.2.1, r15.2]) (G' := [g0, r13.2.2.2.2.2.2.2.1, r16.2.2.2]) (ρ := [0, 2, 3]) (φ := [0, 5, 3]) (ψ := [1, 2]) [some 0, none, none, some 2, none, some 1, none] [none, some 0, some 1] zyw_M_endsPiece zyw_M_readsCompared zye_M_readsCompared (by decide +kernel) (zt_M_endsPiece hr16) ⟨⟨_, rfl, fun _ => rfl⟩, ⟨_, rfl, fun _ => rfl⟩, ⟨_, rfl, fun _ => rfl⟩, trivial⟩ ⟨rfl, rfl, trivial⟩ rfl rfl rfl rfl rfl rfl rfl) zd232_94 zxt233 rfl (by decide) (by decide) rfl ?_
            refine zv_con hB zd232_97 rfl ?_
            have hw := Option.some.inj h
            subst hw
            exact hret _ _ _ _ _ zd232_98 (by constructor <;> decide) ⟨rfl, rfl, rfl⟩
          · rw [if_pos hc14] at h
            refine zv_con hB zd232_85 rfl ?_
            have hw := Option.some.inj h
            subst hw
            exact hret _ _ _ _ _ zd232_86 (by constructor <;> decide) ⟨rfl, rfl, rfl⟩
      · rw [if_pos hc6] at h
        refine zv_con hB zd232_32 rfl ?_
        refine zv_goto hB zd232_34 rfl ?_
        refine zv_ist hB zd232_52 rfl rfl rfl ?_
        refine zv_ild hB zd232_53 rfl rfl ?_
        refine zv_con hB zd232_54 rfl ?_
        refine zv_cne hB zd232_55 rfl (fun _ => ?_) (fun hc => absurd hc (by decide))
        refine zv_ald hB zd232_68 rfl rfl rfl ?_
        refine zv_ald hB zd232_69 rfl rfl rfl ?_
        refine zv_getf hB zd232_70 rfl rfl (fun _ _ => ?_)
        refine zv_con hB zd232_73 rfl ?_
        refine zv_addw hB zd232_74 ?_
        refine zv_putf hB zd232_75 rfl rfl (fun h => by cases h) rfl ?_
        refine zv_ald hB zd232_78 rfl rfl rfl ?_
        obtain ⟨r18, hr18, h⟩ := zi_bind h
        refine zv_cv hB (zv_emq (va2 := [.inr 0]) (F := [.inl r1.2.1, .inl (zi_w (r1.2.2.1 + 1)), .inl f2, .inl r1.2.2.2.1, .inl r1.2.2.2.2.1, .inl r1.2.2.2.2.2.1, .inl r1.2.2.2.2.2.2.1]) (F' := [.inl r18.2.1, .inl r18.2.2.1, .inl f2, .inl r18.2.2.2.1, .inl r18.2.2.2.2.1, .inl r18.2.2.2.2.2.1, .inl r18.2.2.2.2.2.2.1]) (G := [g0, r1.2.2.2.2.2.2.2.1, r1.2.2.2.2.2.2.2.2]) (G' := [g0, r18.2.2.2.2.2.2.2.1, r18.2.2.2.2.2.2.2.2]) (ρ := [0, 1, 2, 3]) (φ := [0, 1, 2, 3, 4, 5, 6]) (ψ := [0, 1, 2]) [some 0, some 1, some 2, some 3, some 4, some 5, some 6] [some 0, some 1, some 2] zyw_M_readsSum zyw_M_readsCompared zye_M_readsCompared (by decide +kernel) (zt_M_readsSum hr18) ⟨⟨_, rfl, fun _ => rfl⟩, ⟨_, rfl, fun _ => rfl⟩, ⟨_, rfl, fun _ => rfl⟩, ⟨_, rfl, fun _ => rfl⟩, ⟨_, rfl, fun _ => rfl⟩, ⟨_, rfl, fun _ => rfl⟩, ⟨_, rfl, fun _ => rfl⟩, trivial⟩ ⟨rfl, rfl, rfl, trivial⟩ rfl rfl rfl rfl rfl rfl rfl) zd232_79 zxt220 rfl (by decide) (by decide) rfl ?_
        refine zv_zne hB zd232_82 rfl (fun hc19 => ?_) (fun hc19 => ?_)
        · rw [if_neg hc19] at h
          refine zv_ald hB zd232_87 rfl rfl rfl ?_
          refine zv_ild hB zd232_88 rfl rfl ?_
          refine zv_con hB zd232_89 rfl ?_
          obtain ⟨r20, hr20, h⟩ := zi_bind h
          refine zv_cv hB (zv_emq (va2 := [.inr 0, .inl 8, .inl 0]) (F := [.inl r18.2.1, .inl r18.2.2.1, .inl f2, .inl r18.2.2.2.1, .inl r18.2.2.2.2.1, .inl r18.2.2.2.2.2.1, .inl r18.2.2.2.2.2.2.1]) (F' := [.inl r18.2.1, .inl r18.2.2.1, .inl f2, .inl r18.2.2.2.1, .inl r18.2.2.2.2.1, .inl r20.1, .inl r18.2.2.2.2.2.2.1]) (G := [g0, r18.2.2.2.2.2.2.2.1, r18.2.2.2.2.2.2.2.2]) (G' := [g0, r18.2.2.2.2.2.2.2.1, r20.2]) (ρ := [0, 3]) (φ := [5]) (ψ := [2]) [none, none, none, none, none, some 0, none] [none, none, some 0] zyw_M_notes zyw_M_readsCompared zye_M_readsCompared (by decide +kernel) (zt_M_notes hr20) ⟨⟨_, rfl, fun _ => rfl⟩, trivial⟩ ⟨rfl, trivial⟩ rfl rfl rfl rfl rfl rfl rfl) zd232_90 zxt225 rfl (by decide) (by decide) rfl ?_
          refine zv_ald hB zd232_93 rfl rfl rfl ?_
          obtain ⟨r21, hr21, h⟩ := zi_bind h
          refine zv_cv hB (zv_emq (va2 := [.inr 0]) (F := [.inl r18.2.1, .inl r18.2.2.1, .inl f2, .inl r18.2.2.2.1, .inl r18.2.2.2.2.1, .inl r20.1, .inl r18.2.2.2.2.2.2.1]) (F' := [.inl r21.1, .inl r18.2.2.1, .inl f2, .inl r21.2.2.1, .inl r18.2.2.2.2.1, .inl r21.2.1, .inl r18.2.2.2.2.2.2.1]) (G := [g0, r18.2.2.2.2.2.2.2.1, r20.2]) (G' := [g0, r18.2.2.2.2.2.2.2.1, r21.2.2.2]) (ρ := [0, 2, 3]) (φ := [0, 5, 3]) (ψ := [1, 2]) [some 0, none, none, some 2, none, some 1, none] [none, some 0, some 1] zyw_M_endsPiece zyw_M_readsCompared zye_M_readsCompared (by decide +kernel) (zt_M_endsPiece hr21) ⟨⟨_, rfl, fun _ => rfl⟩, ⟨_, rfl, fun _ => rfl⟩, ⟨_, rfl, fun _ => rfl⟩, trivial⟩ ⟨rfl, rfl, trivial⟩ rfl rfl rfl rfl rfl rfl rfl) zd232_94 zxt233 rfl (by decide) (by decide) rfl ?_
          refine zv_con hB zd232_97 rfl ?_
          have hw := Option.some.inj h
          subst hw
          exact hret _ _ _ _ _ zd232_98 (by constructor <;> decide) ⟨rfl, rfl, rfl⟩
        · rw [if_pos hc19] at h
          refine zv_con hB zd232_85 rfl ?_
          have hw := Option.some.inj h
          subst hw
          exact hret _ _ _ _ _ zd232_86 (by constructor <;> decide) ⟨rfl, rfl, rfl⟩
    · rw [if_pos hc4] at h
      refine zv_con hB zd232_18 rfl ?_
      refine zv_goto hB zd232_20 rfl ?_
      refine zv_ist hB zd232_52 rfl rfl rfl ?_
      refine zv_ild hB zd232_53 rfl rfl ?_
      refine zv_con hB zd232_54 rfl ?_
      refine zv_cne hB zd232_55 rfl (fun _ => ?_) (fun hc => absurd hc (by decide))
      refine zv_ald hB zd232_68 rfl rfl rfl ?_
      refine zv_ald hB zd232_69 rfl rfl rfl ?_
      refine zv_getf hB zd232_70 rfl rfl (fun _ _ => ?_)
      refine zv_con hB zd232_73 rfl ?_
      refine zv_addw hB zd232_74 ?_
      refine zv_putf hB zd232_75 rfl rfl (fun h => by cases h) rfl ?_
      refine zv_ald hB zd232_78 rfl rfl rfl ?_
      obtain ⟨r23, hr23, h⟩ := zi_bind h
      refine zv_cv hB (zv_emq (va2 := [.inr 0]) (F := [.inl r1.2.1, .inl (zi_w (r1.2.2.1 + 1)), .inl f2, .inl r1.2.2.2.1, .inl r1.2.2.2.2.1, .inl r1.2.2.2.2.2.1, .inl r1.2.2.2.2.2.2.1]) (F' := [.inl r23.2.1, .inl r23.2.2.1, .inl f2, .inl r23.2.2.2.1, .inl r23.2.2.2.2.1, .inl r23.2.2.2.2.2.1, .inl r23.2.2.2.2.2.2.1]) (G := [g0, r1.2.2.2.2.2.2.2.1, r1.2.2.2.2.2.2.2.2]) (G' := [g0, r23.2.2.2.2.2.2.2.1, r23.2.2.2.2.2.2.2.2]) (ρ := [0, 1, 2, 3]) (φ := [0, 1, 2, 3, 4, 5, 6]) (ψ := [0, 1, 2]) [some 0, some 1, some 2, some 3, some 4, some 5, some 6] [some 0, some 1, some 2] zyw_M_readsSum zyw_M_readsCompared zye_M_readsCompared (by decide +kernel) (zt_M_readsSum hr23) ⟨⟨_, rfl, fun _ => rfl⟩, ⟨_, rfl, fun _ => rfl⟩, ⟨_, rfl, fun _ => rfl⟩, ⟨_, rfl, fun _ => rfl⟩, ⟨_, rfl, fun _ => rfl⟩, ⟨_, rfl, fun _ => rfl⟩, ⟨_, rfl, fun _ => rfl⟩, trivial⟩ ⟨rfl, rfl, rfl, trivial⟩ rfl rfl rfl rfl rfl rfl rfl) zd232_79 zxt220 rfl (by decide) (by decide) rfl ?_
      refine zv_zne hB zd232_82 rfl (fun hc24 => ?_) (fun hc24 => ?_)
      · rw [if_neg hc24] at h
        refine zv_ald hB zd232_87 rfl rfl rfl ?_
        refine zv_ild hB zd232_88 rfl rfl ?_
        refine zv_con hB zd232_89 rfl ?_
        obtain ⟨r25, hr25, h⟩ := zi_bind h
        refine zv_cv hB (zv_emq (va2 := [.inr 0, .inl 7, .inl 0]) (F := [.inl r23.2.1, .inl r23.2.2.1, .inl f2, .inl r23.2.2.2.1, .inl r23.2.2.2.2.1, .inl r23.2.2.2.2.2.1, .inl r23.2.2.2.2.2.2.1]) (F' := [.inl r23.2.1, .inl r23.2.2.1, .inl f2, .inl r23.2.2.2.1, .inl r23.2.2.2.2.1, .inl r25.1, .inl r23.2.2.2.2.2.2.1]) (G := [g0, r23.2.2.2.2.2.2.2.1, r23.2.2.2.2.2.2.2.2]) (G' := [g0, r23.2.2.2.2.2.2.2.1, r25.2]) (ρ := [0, 3]) (φ := [5]) (ψ := [2]) [none, none, none, none, none, some 0, none] [none, none, some 0] zyw_M_notes zyw_M_readsCompared zye_M_readsCompared (by decide +kernel) (zt_M_notes hr25) ⟨⟨_, rfl, fun _ => rfl⟩, trivial⟩ ⟨rfl, trivial⟩ rfl rfl rfl rfl rfl rfl rfl) zd232_90 zxt225 rfl (by decide) (by decide) rfl ?_
        refine zv_ald hB zd232_93 rfl rfl rfl ?_
        obtain ⟨r26, hr26, h⟩ := zi_bind h
        refine zv_cv hB (zv_emq (va2 := [.inr 0]) (F := [.inl r23.2.1, .inl r23.2.2.1, .inl f2, .inl r23.2.2.2.1, .inl r23.2.2.2.2.1, .inl r25.1, .inl r23.2.2.2.2.2.2.1]) (F' := [.inl r26.1, .inl r23.2.2.1, .inl f2, .inl r26.2.2.1, .inl r23.2.2.2.2.1, .inl r26.2.1, .inl r23.2.2.2.2.2.2.1]) (G := [g0, r23.2.2.2.2.2.2.2.1, r25.2]) (G' := [g0, r23.2.2.2.2.2.2.2.1, r26.2.2.2]) (ρ := [0, 2, 3]) (φ := [0, 5, 3]) (ψ := [1, 2]) [some 0, none, none, some 2, none, some 1, none] [none, some 0, some 1] zyw_M_endsPiece zyw_M_readsCompared zye_M_readsCompared (by decide +kernel) (zt_M_endsPiece hr26) ⟨⟨_, rfl, fun _ => rfl⟩, ⟨_, rfl, fun _ => rfl⟩, ⟨_, rfl, fun _ => rfl⟩, trivial⟩ ⟨rfl, rfl, trivial⟩ rfl rfl rfl rfl rfl rfl rfl) zd232_94 zxt233 rfl (by decide) (by decide) rfl ?_
        refine zv_con hB zd232_97 rfl ?_
        have hw := Option.some.inj h
        subst hw
        exact hret _ _ _ _ _ zd232_98 (by constructor <;> decide) ⟨rfl, rfl, rfl⟩
      · rw [if_pos hc24] at h
        refine zv_con hB zd232_85 rfl ?_
        have hw := Option.some.inj h
        subst hw
        exact hret _ _ _ _ _ zd232_86 (by constructor <;> decide) ⟨rfl, rfl, rfl⟩
  · rw [if_pos hc2] at h
    refine zv_con hB zd232_7 rfl ?_
    have hw := Option.some.inj h
    subst hw
    exact hret _ _ _ _ _ zd232_8 (by constructor <;> decide) ⟨rfl, rfl, rfl⟩
/-! M_lands (Z)V -/
-- names: 0 StarTalesModel('arg', 0), 1 (0, 220)(0, 12, 15), 2 (0, 220)(0, 12, 14)
-- fields: f0 = 0.waiting_, f1 = 0.codeMany_; arrays: g0 = 1, g1 = 2; out: [('f', 0), ('g', 1)]
abbrev zy_M_lands : zNL := (3, [(0, 12)], [(0, 12, 10, 0), (0, 12, 9, 1)], [(0, 12, 15, 1), (0, 12, 14, 2)], [(1, 0, 220, 0), (2, 0, 220, 1)])
theorem zyw_M_lands : zv_wf zy_M_lands = true := by decide +kernel
theorem zye_M_lands : zv_ek2 zy_M_lands = true := by decide +kernel
def zf_M_lands_l0_b (x1 : Int) (f1 : Int) (g0 : (Int → Int)) (rec : Int → (Int → Int) → Option (Int × (Int → Int))) (f0 : Int) (g1 : (Int → Int)) : Option (Int × (Int → Int)) := (zf_M_waitTop f0 g0).bind fun r1 => (if r1 = 11 then (cond (zi_ix (zi_w (f0 - 1)) 220) (cond (zi_ix (zi_rem (g0 (zi_w (f0 - 1))) 1048576) 220) (rec (zi_w (f0 - 1)) (zv_up g1 (zi_rem (g0 (zi_w (f0 - 1))) 1048576) (zi_w ((zi_w (1048576 * (zi_div (g1 (zi_rem (g0 (zi_w (f0 - 1))) 1048576)) 1048576))) + f1)))) none) none) else (if x1 = 0 then (some (f0, g1)) else ((zf_M_waitTop f0 g0).bind fun r6 => (if r6 = 12 then (cond (zi_ix (zi_w (f0 - 1)) 220) (cond (zi_ix (zi_rem (g0 (zi_w (f0 - 1))) 1048576) 220) (rec (zi_w (f0 - 1)) (zv_up g1 (zi_rem (g0 (zi_w (f0 - 1))) 1048576) (zi_w ((zi_w (1048576 * (zi_div (g1 (zi_rem (g0 (zi_w (f0 - 1))) 1048576)) 1048576))) + f1)))) none) none) else (some (f0, g1))))))
def zf_M_lands_l0 (x1 : Int) (f1 : Int) (g0 : (Int → Int)) : Nat → Int → (Int → Int) → Option (Int × (Int → Int))
  | 0, _, _ => none
  | n + 1, f0, g1 => zf_M_lands_l0_b x1 f1 g0 (zf_M_lands_l0 x1 f1 g0 n) f0 g1
def zf_M_lands (x1 : Int) (f0 : Int) (f1 : Int) (g0 : (Int → Int)) (g1 : (Int → Int)) : Option (Int × (Int → Int)) := (zf_M_lands_l0 x1 f1 g0 zi_fu f0 g1).bind fun q10 => (some (q10.1, q10.2))
theorem zd234_0 : decode zxm234.2.1 0 = .ok (.aload_n 0, 1) := by decide +kernel
theorem zd234_1 : decode zxm234.2.1 1 = .ok (.invokevirtual 209, 3) := by decide +kernel
theorem zd234_4 : decode zxm234.2.1 4 = .ok (.bipush 11, 2) := by decide +kernel
theorem zd234_6 : decode zxm234.2.1 6 = .ok (.if_icmp .eq 16, 3) := by decide +kernel
theorem zd234_9 : decode zxm234.2.1 9 = .ok (.iload_n 1, 1) := by decide +kernel
theorem zd234_10 : decode zxm234.2.1 10 = .ok (.ifCond .eq 63, 3) := by decide +kernel
theorem zd234_13 : decode zxm234.2.1 13 = .ok (.aload_n 0, 1) := by decide +kernel
theorem zd234_14 : decode zxm234.2.1 14 = .ok (.invokevirtual 209, 3) := by decide +kernel
theorem zd234_17 : decode zxm234.2.1 17 = .ok (.bipush 12, 2) := by decide +kernel
theorem zd234_19 : decode zxm234.2.1 19 = .ok (.if_icmp .ne 54, 3) := by decide +kernel
theorem zd234_22 : decode zxm234.2.1 22 = .ok (.aload_n 0, 1) := by decide +kernel
theorem zd234_23 : decode zxm234.2.1 23 = .ok (.getfield 26, 3) := by decide +kernel
theorem zd234_26 : decode zxm234.2.1 26 = .ok (.aload_n 0, 1) := by decide +kernel
theorem zd234_27 : decode zxm234.2.1 27 = .ok (.getfield 206, 3) := by decide +kernel
theorem zd234_30 : decode zxm234.2.1 30 = .ok (.iconst 1, 1) := by decide +kernel
theorem zd234_31 : decode zxm234.2.1 31 = .ok (.isub, 1) := by decide +kernel
theorem zd234_32 : decode zxm234.2.1 32 = .ok (.iaload, 1) := by decide +kernel
theorem zd234_33 : decode zxm234.2.1 33 = .ok (.ldc 202, 2) := by decide +kernel
theorem zd234_35 : decode zxm234.2.1 35 = .ok (.irem, 1) := by decide +kernel
theorem zd234_36 : decode zxm234.2.1 36 = .ok (.istore_n 2, 1) := by decide +kernel
theorem zd234_37 : decode zxm234.2.1 37 = .ok (.aload_n 0, 1) := by decide +kernel
theorem zd234_38 : decode zxm234.2.1 38 = .ok (.getfield 23, 3) := by decide +kernel
theorem zd234_41 : decode zxm234.2.1 41 = .ok (.iload_n 2, 1) := by decide +kernel
theorem zd234_42 : decode zxm234.2.1 42 = .ok (.ldc 202, 2) := by decide +kernel
theorem zd234_44 : decode zxm234.2.1 44 = .ok (.aload_n 0, 1) := by decide +kernel
theorem zd234_45 : decode zxm234.2.1 45 = .ok (.getfield 23, 3) := by decide +kernel
theorem zd234_48 : decode zxm234.2.1 48 = .ok (.iload_n 2, 1) := by decide +kernel
theorem zd234_49 : decode zxm234.2.1 49 = .ok (.iaload, 1) := by decide +kernel
theorem zd234_50 : decode zxm234.2.1 50 = .ok (.ldc 202, 2) := by decide +kernel
theorem zd234_52 : decode zxm234.2.1 52 = .ok (.idiv, 1) := by decide +kernel
theorem zd234_53 : decode zxm234.2.1 53 = .ok (.imul, 1) := by decide +kernel
theorem zd234_54 : decode zxm234.2.1 54 = .ok (.aload_n 0, 1) := by decide +kernel
theorem zd234_55 : decode zxm234.2.1 55 = .ok (.getfield 199, 3) := by decide +kernel
theorem zd234_58 : decode zxm234.2.1 58 = .ok (.iadd, 1) := by decide +kernel
theorem zd234_59 : decode zxm234.2.1 59 = .ok (.iastore, 1) := by decide +kernel
theorem zd234_60 : decode zxm234.2.1 60 = .ok (.aload_n 0, 1) := by decide +kernel
theorem zd234_61 : decode zxm234.2.1 61 = .ok (.aload_n 0, 1) := by decide +kernel
theorem zd234_62 : decode zxm234.2.1 62 = .ok (.getfield 206, 3) := by decide +kernel
theorem zd234_65 : decode zxm234.2.1 65 = .ok (.iconst 1, 1) := by decide +kernel
theorem zd234_66 : decode zxm234.2.1 66 = .ok (.isub, 1) := by decide +kernel
theorem zd234_67 : decode zxm234.2.1 67 = .ok (.putfield 206, 3) := by decide +kernel
theorem zd234_70 : decode zxm234.2.1 70 = .ok (.goto (-70), 3) := by decide +kernel
theorem zd234_73 : decode zxm234.2.1 73 = .ok (.return_, 1) := by decide +kernel
theorem zt_M_lands {x1 : Int} {f0 : Int} {f1 : Int} {g0 : (Int → Int)} {g1 : (Int → Int)} {o : Int × (Int → Int)} (h : zf_M_lands x1 f0 f1 g0 g1 = some o) : zv_Fn z_TB z_cl z_KX zy_M_lands zxm234 (1, 60) [.inr 0, .inl x1] [.inl f0, .inl f1] [g0, g1] none [.inl o.1, .inl f1] [g0, o.2] := zv_meth (K := (z_KF13, z_KC13, z_KL13, z_KT13, [], [], [], none)) (FT := z_FT) (MT := z_MT) (n := 2) zxp234 (z_ks13 _ (fun _ h => List.mem_cons_of_mem _ h) _ _ _ _ (fun j r h _ => by cases h)) (fun _ _ => zs_KX_p) zyw_M_lands (fun va F G h => by obtain ⟨rfl, _⟩ := h; rfl) (fun va F G h => by obtain ⟨rfl, _⟩ := h; rfl) rfl fun good va F G hB hret hvret hP => by
  obtain ⟨rfl, rfl, rfl⟩ := hP
  have l0 : ∀ (n : Nat) (x1 : Int) (f0 : Int) (g1 : (Int → Int)) (q : Int × (Int → Int)), zf_M_lands_l0 x1 f1 g0 n f0 g1 = some q → (good 73 [.inr 1000, .inr 1000, .inr 1000] [] [.inl q.1, .inl f1] [g0, q.2]) → good 0 [.inr 0, .inl x1, .inr 1000] [] [.inl f0, .inl f1] [g0, g1] := by
    intro n
    induction n with
    | zero => intro x1 f0 g1 q h; exact absurd (show none = some q from h) (fun h => by cases h)
    | succ n ih =>
      intro x1 f0 g1 q h hK
      replace h : zf_M_lands_l0_b x1 f1 g0 (zf_M_lands_l0 x1 f1 g0 n) f0 g1 = some q := h
      unfold zf_M_lands_l0_b at h
      refine zv_ald hB zd234_0 rfl rfl rfl ?_
      obtain ⟨r1, hr1, h⟩ := zi_bind h
      refine zv_cv hB (zv_emq (va2 := [.inr 0]) (F := [.inl f0, .inl f1]) (F' := [.inl f0, .inl f1]) (G := [g0, g1]) (G' := [g0, g1]) (ρ := [0, 1]) (φ := [0]) (ψ := [0]) [some 0, none] [some 0, none] zyw_M_waitTop zyw_M_lands zye_M_lands (by decide +kernel) (zt_M_waitTop hr1) ⟨⟨_, rfl, fun _ => rfl⟩, trivial⟩ ⟨rfl, trivial⟩ rfl rfl rfl rfl rfl rfl rfl) zd234_1 zxt229 rfl (by decide) (by decide) rfl ?_
      refine zv_con hB zd234_4 rfl ?_
      refine zv_ceq hB zd234_6 rfl (fun hc2 => ?_) (fun hc2 => ?_)
      · rw [if_pos hc2] at h
        refine zv_ald hB zd234_22 rfl rfl rfl ?_
        refine zv_getr hB zd234_23 rfl ?_
        refine zv_ald hB zd234_26 rfl rfl rfl ?_
        refine zv_getf hB zd234_27 rfl rfl (fun _ _ => ?_)
        refine zv_con hB zd234_30 rfl ?_
        refine zv_subw hB zd234_31 ?_
        obtain ⟨c3, h⟩ := zi_if h
        refine zv_iald hB zd234_32 rfl rfl (zi_ix_ok c3).1 (zi_ix_ok c3).2 (fun _ _ => ?_)
        refine zv_con (n := 1048576) hB zd234_33 (by decide +kernel) ?_
        refine zv_remw hB zd234_35 (by decide) ?_
        refine zv_ist hB zd234_36 rfl rfl rfl ?_
        refine zv_ald hB zd234_37 rfl rfl rfl ?_
        refine zv_getr hB zd234_38 rfl ?_
        refine zv_ild hB zd234_41 rfl rfl ?_
        refine zv_con (n := 1048576) hB zd234_42 (by decide +kernel) ?_
        refine zv_ald hB zd234_44 rfl rfl rfl ?_
        refine zv_getr hB zd234_45 rfl ?_
        refine zv_ild hB zd234_48 rfl rfl ?_
        obtain ⟨c4, h⟩ := zi_if h
        refine zv_iald hB zd234_49 rfl rfl (zi_ix_ok c4).1 (zi_ix_ok c4).2 (fun _ _ => ?_)
        refine zv_con (n := 1048576) hB zd234_50 (by decide +kernel) ?_
        refine zv_divw hB zd234_52 (by decide) ?_
        refine zv_mulw hB zd234_53 ?_
        refine zv_ald hB zd234_54 rfl rfl rfl ?_
        refine zv_getf hB zd234_55 rfl rfl (fun _ _ => ?_)
        refine zv_addw hB zd234_58 ?_
        refine zv_iast hB zd234_59 rfl rfl (zi_ix_ok c4).1 (zi_ix_ok c4).2 ?_
        refine zv_ald hB zd234_60 rfl rfl rfl ?_
        refine zv_ald hB zd234_61 rfl rfl rfl ?_
        refine zv_getf hB zd234_62 rfl rfl (fun _ _ => ?_)
        refine zv_con hB zd234_65 rfl ?_
        refine zv_subw hB zd234_66 ?_
        refine zv_putf hB zd234_67 rfl rfl (fun h => by cases h) rfl ?_
        refine zv_goto hB zd234_70 rfl ?_
        refine zv_wk hB (L' := [.inr 0, .inl x1, .inr 1000]) (F' := [.inl (zi_w (f0 - 1)), .inl f1]) ⟨fun _ => rfl, fun _ => rfl, fun (h : zv_is (.inr 1000)) => (Nat.lt_irrefl 1000 h).elim, trivial⟩ ⟨fun _ => rfl, fun _ => rfl, trivial⟩ ?_
        exact ih _ _ _ q h hK
      · rw [if_neg hc2] at h
        refine zv_ild hB zd234_9 rfl rfl ?_
        refine zv_zeq hB zd234_10 rfl (fun hc5 => ?_) (fun hc5 => ?_)
        · rw [if_pos hc5] at h
          have hq := Option.some.inj h
          subst hq
          refine zv_wk hB (L' := [.inr 1000, .inr 1000, .inr 1000]) (F' := [.inl f0, .inl f1]) ⟨fun (h : zv_is (.inr 1000)) => (Nat.lt_irrefl 1000 h).elim, fun (h : zv_is (.inr 1000)) => (Nat.lt_irrefl 1000 h).elim, fun (h : zv_is (.inr 1000)) => (Nat.lt_irrefl 1000 h).elim, trivial⟩ ⟨fun _ => rfl, fun _ => rfl, trivial⟩ ?_
          exact hK
        · rw [if_neg hc5] at h
          refine zv_ald hB zd234_13 rfl rfl rfl ?_
          obtain ⟨r6, hr6, h⟩ := zi_bind h
          refine zv_cv hB (zv_emq (va2 := [.inr 0]) (F := [.inl f0, .inl f1]) (F' := [.inl f0, .inl f1]) (G := [g0, g1]) (G' := [g0, g1]) (ρ := [0, 1]) (φ := [0]) (ψ := [0]) [some 0, none] [some 0, none] zyw_M_waitTop zyw_M_lands zye_M_lands (by decide +kernel) (zt_M_waitTop hr6) ⟨⟨_, rfl, fun _ => rfl⟩, trivial⟩ ⟨rfl, trivial⟩ rfl rfl rfl rfl rfl rfl rfl) zd234_14 zxt229 rfl (by decide) (by decide) rfl ?_
          refine zv_con hB zd234_17 rfl ?_
          refine zv_cne hB zd234_19 rfl (fun hc7 => ?_) (fun hc7 => ?_)
          · rw [if_neg hc7] at h
            have hq := Option.some.inj h
            subst hq
            refine zv_wk hB (L' := [.inr 1000, .inr 1000, .inr 1000]) (F' := [.inl f0, .inl f1]) ⟨fun (h : zv_is (.inr 1000)) => (Nat.lt_irrefl 1000 h).elim, fun (h : zv_is (.inr 1000)) => (Nat.lt_irrefl 1000 h).elim, fun (h : zv_is (.inr 1000)) => (Nat.lt_irrefl 1000 h).elim, trivial⟩ ⟨fun _ => rfl, fun _ => rfl, trivial⟩ ?_
            exact hK
          · rw [if_pos hc7] at h
            refine zv_ald hB zd234_22 rfl rfl rfl ?_
            refine zv_getr hB zd234_23 rfl ?_
            refine zv_ald hB zd234_26 rfl rfl rfl ?_
            refine zv_getf hB zd234_27 rfl rfl (fun _ _ => ?_)
            refine zv_con hB zd234_30 rfl ?_
            refine zv_subw hB zd234_31 ?_
            obtain ⟨c8, h⟩ := zi_if h
            refine zv_iald hB zd234_32 rfl rfl (zi_ix_ok c8).1 (zi_ix_ok c8).2 (fun _ _ => ?_)
            refine zv_con (n := 1048576) hB zd234_33 (by decide +kernel) ?_
            refine zv_remw hB zd234_35 (by decide) ?_
            refine zv_ist hB zd234_36 rfl rfl rfl ?_
            refine zv_ald hB zd234_37 rfl rfl rfl ?_
            refine zv_getr hB zd234_38 rfl ?_
            refine zv_ild hB zd234_41 rfl rfl ?_
            refine zv_con (n := 1048576) hB zd234_42 (by decide +kernel) ?_
            refine zv_ald hB zd234_44 rfl rfl rfl ?_
            refine zv_getr hB zd234_45 rfl ?_
            refine zv_ild hB zd234_48 rfl rfl ?_
            obtain ⟨c9, h⟩ := zi_if h
            refine zv_iald hB zd234_49 rfl rfl (zi_ix_ok c9).1 (zi_ix_ok c9).2 (fun _ _ => ?_)
            refine zv_con (n := 1048576) hB zd234_50 (by decide +kernel) ?_
            refine zv_divw hB zd234_52 (by decide) ?_
            refine zv_mulw hB zd234_53 ?_
            refine zv_ald hB zd234_54 rfl rfl rfl ?_
            refine zv_getf hB zd234_55 rfl rfl (fun _ _ => ?_)
            refine zv_addw hB zd234_58 ?_
            refine zv_iast hB zd234_59 rfl rfl (zi_ix_ok c9).1 (zi_ix_ok c9).2 ?_
            refine zv_ald hB zd234_60 rfl rfl rfl ?_
            refine zv_ald hB zd234_61 rfl rfl rfl ?_
            refine zv_getf hB zd234_62 rfl rfl (fun _ _ => ?_)
            refine zv_con hB zd234_65 rfl ?_
            refine zv_subw hB zd234_66 ?_
            refine zv_putf hB zd234_67 rfl rfl (fun h => by cases h) rfl ?_
            refine zv_goto hB zd234_70 rfl ?_
            refine zv_wk hB (L' := [.inr 0, .inl x1, .inr 1000]) (F' := [.inl (zi_w (f0 - 1)), .inl f1]) ⟨fun _ => rfl, fun _ => rfl, fun (h : zv_is (.inr 1000)) => (Nat.lt_irrefl 1000 h).elim, trivial⟩ ⟨fun _ => rfl, fun _ => rfl, trivial⟩ ?_
            exact ih _ _ _ q h hK
  unfold zf_M_lands at h
  obtain ⟨q10, hq10, h⟩ := zi_bind h
  refine l0 _ _ _ _ q10 hq10 ?_
  show good 73 [.inr 1000, .inr 1000, .inr 1000] [] [.inl q10.1, .inl f1] [g0, q10.2]
  have hw := Option.some.inj h
  subst hw
  exact hvret _ _ _ _ zd234_73 trivial ⟨rfl, rfl, rfl⟩
/-! M_jumps (I)V -/
-- names: 0 StarTalesModel('arg', 0), 1 (0, 220)(0, 12, 15), 2 (0, 220)(0, 12, 14)
-- fields: f0 = 0.waiting_, f1 = 0.codeMany_, f2 = 0.place0_; arrays: g0 = 1, g1 = 2; out: [('f', 0), ('f', 1), ('f', 2), ('g', 0), ('g', 1)]
abbrev zy_M_jumps : zNL := (3, [(0, 12)], [(0, 12, 10, 0), (0, 12, 9, 1), (0, 12, 5, 2)], [(0, 12, 15, 1), (0, 12, 14, 2)], [(1, 0, 220, 0), (2, 0, 220, 1)])
theorem zyw_M_jumps : zv_wf zy_M_jumps = true := by decide +kernel
theorem zye_M_jumps : zv_ek2 zy_M_jumps = true := by decide +kernel
def zf_M_jumps (x1 : Int) (f0 : Int) (f1 : Int) (f2 : Int) (g0 : (Int → Int)) (g1 : (Int → Int)) : Option (Int × Int × Int × (Int → Int) × (Int → Int)) := cond (zi_ix f0 220) ((zf_M_notes x1 0 f1 g1).bind fun r2 => (some ((zi_w (f0 + 1)), r2.1, (zi_w (f2 + 1)), (zv_up g0 f0 (zi_w ((zi_w (1048576 * x1)) + f1))), r2.2))) none
theorem zd235_0 : decode zxm235.2.1 0 = .ok (.aload_n 0, 1) := by decide +kernel
theorem zd235_1 : decode zxm235.2.1 1 = .ok (.getfield 26, 3) := by decide +kernel
theorem zd235_4 : decode zxm235.2.1 4 = .ok (.aload_n 0, 1) := by decide +kernel
theorem zd235_5 : decode zxm235.2.1 5 = .ok (.getfield 206, 3) := by decide +kernel
theorem zd235_8 : decode zxm235.2.1 8 = .ok (.ldc 202, 2) := by decide +kernel
theorem zd235_10 : decode zxm235.2.1 10 = .ok (.iload_n 1, 1) := by decide +kernel
theorem zd235_11 : decode zxm235.2.1 11 = .ok (.imul, 1) := by decide +kernel
theorem zd235_12 : decode zxm235.2.1 12 = .ok (.aload_n 0, 1) := by decide +kernel
theorem zd235_13 : decode zxm235.2.1 13 = .ok (.getfield 199, 3) := by decide +kernel
theorem zd235_16 : decode zxm235.2.1 16 = .ok (.iadd, 1) := by decide +kernel
theorem zd235_17 : decode zxm235.2.1 17 = .ok (.iastore, 1) := by decide +kernel
theorem zd235_18 : decode zxm235.2.1 18 = .ok (.aload_n 0, 1) := by decide +kernel
theorem zd235_19 : decode zxm235.2.1 19 = .ok (.aload_n 0, 1) := by decide +kernel
theorem zd235_20 : decode zxm235.2.1 20 = .ok (.getfield 206, 3) := by decide +kernel
theorem zd235_23 : decode zxm235.2.1 23 = .ok (.iconst 1, 1) := by decide +kernel
theorem zd235_24 : decode zxm235.2.1 24 = .ok (.iadd, 1) := by decide +kernel
theorem zd235_25 : decode zxm235.2.1 25 = .ok (.putfield 206, 3) := by decide +kernel
theorem zd235_28 : decode zxm235.2.1 28 = .ok (.aload_n 0, 1) := by decide +kernel
theorem zd235_29 : decode zxm235.2.1 29 = .ok (.iload_n 1, 1) := by decide +kernel
theorem zd235_30 : decode zxm235.2.1 30 = .ok (.iconst 0, 1) := by decide +kernel
theorem zd235_31 : decode zxm235.2.1 31 = .ok (.invokevirtual 212, 3) := by decide +kernel
theorem zd235_34 : decode zxm235.2.1 34 = .ok (.aload_n 0, 1) := by decide +kernel
theorem zd235_35 : decode zxm235.2.1 35 = .ok (.aload_n 0, 1) := by decide +kernel
theorem zd235_36 : decode zxm235.2.1 36 = .ok (.getfield 176, 3) := by decide +kernel
theorem zd235_39 : decode zxm235.2.1 39 = .ok (.iconst 1, 1) := by decide +kernel
theorem zd235_40 : decode zxm235.2.1 40 = .ok (.iadd, 1) := by decide +kernel
theorem zd235_41 : decode zxm235.2.1 41 = .ok (.putfield 176, 3) := by decide +kernel
theorem zd235_44 : decode zxm235.2.1 44 = .ok (.return_, 1) := by decide +kernel
theorem zt_M_jumps {x1 : Int} {f0 : Int} {f1 : Int} {f2 : Int} {g0 : (Int → Int)} {g1 : (Int → Int)} {o : Int × Int × Int × (Int → Int) × (Int → Int)} (h : zf_M_jumps x1 f0 f1 f2 g0 g1 = some o) : zv_Fn z_TB z_cl z_KX zy_M_jumps zxm235 (1, 60) [.inr 0, .inl x1] [.inl f0, .inl f1, .inl f2] [g0, g1] none [.inl o.1, .inl o.2.1, .inl o.2.2.1] [o.2.2.2.1, o.2.2.2.2] := zv_meth (K := (z_KF13, z_KC13, z_KL13, z_KT13, [], [], [], none)) (FT := z_FT) (MT := z_MT) (n := 2) zxp235 (z_ks13 _ (fun _ h => List.mem_cons_of_mem _ h) _ _ _ _ (fun j r h _ => by cases h)) (fun _ _ => zs_KX_p) zyw_M_jumps (fun va F G h => by obtain ⟨rfl, _⟩ := h; rfl) (fun va F G h => by obtain ⟨rfl, _⟩ := h; rfl) rfl fun good va F G hB hret hvret hP => by
  obtain ⟨rfl, rfl, rfl⟩ := hP
  unfold zf_M_jumps at h
  refine zv_ald hB zd235_0 rfl rfl rfl ?_
  refine zv_getr hB zd235_1 rfl ?_
  refine zv_ald hB zd235_4 rfl rfl rfl ?_
  refine zv_getf hB zd235_5 rfl rfl (fun _ _ => ?_)
  refine zv_con (n := 1048576) hB zd235_8 (by decide +kernel) ?_
  refine zv_ild hB zd235_10 rfl rfl ?_
  refine zv_mulw hB zd235_11 ?_
  refine zv_ald hB zd235_12 rfl rfl rfl ?_
  refine zv_getf hB zd235_13 rfl rfl (fun _ _ => ?_)
  refine zv_addw hB zd235_16 ?_
  obtain ⟨c1, h⟩ := zi_if h
  refine zv_iast hB zd235_17 rfl rfl (zi_ix_ok c1).1 (zi_ix_ok c1).2 ?_
  refine zv_ald hB zd235_18 rfl rfl rfl ?_
  refine zv_ald hB zd235_19 rfl rfl rfl ?_
  refine zv_getf hB zd235_20 rfl rfl (fun _ _ => ?_)
  refine zv_con hB zd235_23 rfl ?_
  refine zv_addw hB zd235_24 ?_
  refine zv_putf hB zd235_25 rfl rfl (fun h => by cases h) rfl ?_
  refine zv_ald hB zd235_28 rfl rfl rfl ?_
  refine zv_ild hB zd235_29 rfl rfl ?_
  refine zv_con hB zd235_30 rfl ?_
  obtain ⟨r2, hr2, h⟩ := zi_bind h
  refine zv_cv hB (zv_emq (va2 := [.inr 0, .inl x1, .inl 0]) (F := [.inl (zi_w (f0 + 1)), .inl f1, .inl f2]) (F' := [.inl (zi_w (f0 + 1)), .inl r2.1, .inl f2]) (G := [(zv_up g0 f0 (zi_w ((zi_w (1048576 * x1)) + f1))), g1]) (G' := [(zv_up g0 f0 (zi_w ((zi_w (1048576 * x1)) + f1))), r2.2]) (ρ := [0, 2]) (φ := [1]) (ψ := [1]) [none, some 0, none] [none, some 0] zyw_M_notes zyw_M_jumps zye_M_jumps (by decide +kernel) (zt_M_notes hr2) ⟨⟨_, rfl, fun _ => rfl⟩, trivial⟩ ⟨rfl, trivial⟩ rfl rfl rfl rfl rfl rfl rfl) zd235_31 zxt225 rfl (by decide) (by decide) rfl ?_
  refine zv_ald hB zd235_34 rfl rfl rfl ?_
  refine zv_ald hB zd235_35 rfl rfl rfl ?_
  refine zv_getf hB zd235_36 rfl rfl (fun _ _ => ?_)
  refine zv_con hB zd235_39 rfl ?_
  refine zv_addw hB zd235_40 ?_
  refine zv_putf hB zd235_41 rfl rfl (fun h => by cases h) rfl ?_
  have hw := Option.some.inj h
  subst hw
  exact hvret _ _ _ _ zd235_44 trivial ⟨rfl, rfl, rfl⟩
end
section
/-! Methods as functions, and that they do what these do. -/
/-! M_readsCondition ()Z -/
-- names: 0 StarTalesModel('arg', 0), 1 (1, 220)(0, 12, 3), 2 (0, 220)(0, 12, 15), 3 (0, 220)(0, 12, 14)
-- fields: f0 = 0.place0_, f1 = 0.length0_, f2 = 0.open_, f3 = 0.waiting_, f4 = 0.fault_, f5 = 0.codeMany_, f6 = 0.number0_; arrays: g0 = 1, g1 = 2, g2 = 3; out: [('ret', None), ('f', 0), ('f', 2), ('f', 3), ('f', 4), ('f', 5), ('f', 6), ('g', 1), ('g', 2)]
abbrev zy_M_readsCondition : zNL := (4, [(0, 12)], [(0, 12, 5, 0), (0, 12, 6, 1), (0, 12, 8, 2), (0, 12, 10, 3), (0, 12, 7, 4), (0, 12, 9, 5), (0, 12, 12, 6)], [(0, 12, 3, 1), (0, 12, 15, 2), (0, 12, 14, 3)], [(1, 1, 220, 0), (2, 0, 220, 1), (3, 0, 220, 2)])
theorem zyw_M_readsCondition : zv_wf zy_M_readsCondition = true := by decide +kernel
theorem zye_M_readsCondition : zv_ek2 zy_M_readsCondition = true := by decide +kernel
def zf_M_readsCondition_l1_b (f1 : Int) (f4 : Int) (f6 : Int) (g0 : (Int → Int)) (g1 : (Int → Int)) (rec : Int → Int → Int → Int → (Int → Int) → Option (((Int × Int × Int × Int × (Int → Int)) ⊕ (Int × Int × Int × Int × Int × Int × Int × (Int → Int) × (Int → Int))))) (f0 : Int) (f2 : Int) (f3 : Int) (f5 : Int) (g2 : (Int → Int)) : Option (((Int × Int × Int × Int × (Int → Int)) ⊕ (Int × Int × Int × Int × Int × Int × Int × (Int → Int) × (Int → Int)))) := (zf_M_here f0 f1 g0).bind fun r17 => (if r17 = 41 then ((zf_M_lands 1 f3 f5 g1 g2).bind fun r19 => (if (zi_w (r19.1 - 1)) = 0 then (some (.inr (1, (zi_w (f0 + 1)), (zi_w (f2 - 1)), (zi_w (r19.1 - 1)), f4, f5, f6, g1, r19.2))) else ((zf_M_endsPiece (zi_w (r19.1 - 1)) f5 (zi_w (f2 - 1)) g1 r19.2).bind fun r21 => (rec (zi_w (f0 + 1)) r21.2.2.1 r21.1 r21.2.1 r21.2.2.2)))) else (some (.inl (f0, f2, f3, f5, g2))))
def zf_M_readsCondition_l1 (f1 : Int) (f4 : Int) (f6 : Int) (g0 : (Int → Int)) (g1 : (Int → Int)) : Nat → Int → Int → Int → Int → (Int → Int) → Option (((Int × Int × Int × Int × (Int → Int)) ⊕ (Int × Int × Int × Int × Int × Int × Int × (Int → Int) × (Int → Int))))
  | 0, _, _, _, _, _ => none
  | n + 1, f0, f2, f3, f5, g2 => zf_M_readsCondition_l1_b f1 f4 f6 g0 g1 (zf_M_readsCondition_l1 f1 f4 f6 g0 g1 n) f0 f2 f3 f5 g2
def zf_M_readsCondition_l0_b (f1 : Int) (g0 : (Int → Int)) (rec : Int → Int → Int → Int → Int → Int → (Int → Int) → (Int → Int) → Option (((Int × Int × Int × Int × Int × Int × (Int → Int) × (Int → Int)) ⊕ (Int × Int × Int × Int × Int × Int × Int × (Int → Int) × (Int → Int))))) (f0 : Int) (f2 : Int) (f3 : Int) (f4 : Int) (f5 : Int) (f6 : Int) (g1 : (Int → Int)) (g2 : (Int → Int)) : Option (((Int × Int × Int × Int × Int × Int × (Int → Int) × (Int → Int)) ⊕ (Int × Int × Int × Int × Int × Int × Int × (Int → Int) × (Int → Int)))) := (zf_M_here f0 f1 g0).bind fun r5 => (if r5 = 33 then ((zf_M_here f0 f1 g0).bind fun r7 => (if r7 = 33 then ((zf_M_opens 10 f2 f3 f0 f4 g1).bind fun r11 => (if r11.1 = 0 then (some (.inr (0, r11.2.2.2.1, r11.2.1, r11.2.2.1, r11.2.2.2.2.1, f5, f6, r11.2.2.2.2.2, g2))) else (rec r11.2.2.2.1 r11.2.1 r11.2.2.1 r11.2.2.2.2.1 f5 f6 r11.2.2.2.2.2 g2))) else ((zf_M_opens 13 f2 f3 f0 f4 g1).bind fun r9 => (if r9.1 = 0 then (some (.inr (0, r9.2.2.2.1, r9.2.1, r9.2.2.1, r9.2.2.2.2.1, f5, f6, r9.2.2.2.2.2, g2))) else (rec r9.2.2.2.1 r9.2.1 r9.2.2.1 r9.2.2.2.2.1 f5 f6 r9.2.2.2.2.2 g2))))) else ((zf_M_here f0 f1 g0).bind fun r13 => (if r13 = 40 then ((zf_M_here f0 f1 g0).bind fun r53 => (if r53 = 33 then ((zf_M_opens 10 f2 f3 f0 f4 g1).bind fun r57 => (if r57.1 = 0 then (some (.inr (0, r57.2.2.2.1, r57.2.1, r57.2.2.1, r57.2.2.2.2.1, f5, f6, r57.2.2.2.2.2, g2))) else (rec r57.2.2.2.1 r57.2.1 r57.2.2.1 r57.2.2.2.2.1 f5 f6 r57.2.2.2.2.2 g2))) else ((zf_M_opens 13 f2 f3 f0 f4 g1).bind fun r55 => (if r55.1 = 0 then (some (.inr (0, r55.2.2.2.1, r55.2.1, r55.2.2.1, r55.2.2.2.2.1, f5, f6, r55.2.2.2.2.2, g2))) else (rec r55.2.2.2.1 r55.2.1 r55.2.2.1 r55.2.2.2.2.1 f5 f6 r55.2.2.2.2.2 g2))))) else ((zf_M_readsCompared f3 f0 f1 f2 f4 f5 f6 g0 g1 g2).bind fun r15 => (if r15.1 = 0 then (some (.inr (0, r15.2.2.1, r15.2.2.2.1, r15.2.1, r15.2.2.2.2.1, r15.2.2.2.2.2.1, r15.2.2.2.2.2.2.1, r15.2.2.2.2.2.2.2.1, r15.2.2.2.2.2.2.2.2))) else ((zf_M_readsCondition_l1 f1 r15.2.2.2.2.1 r15.2.2.2.2.2.2.1 g0 r15.2.2.2.2.2.2.2.1 zi_fu r15.2.2.1 r15.2.2.2.1 r15.2.1 r15.2.2.2.2.2.1 r15.2.2.2.2.2.2.2.2).bind fun q22 => Sum.elim (fun e23 => ((zf_M_here e23.1 f1 g0).bind fun r24 => (if r24 = 38 then ((zf_M_here e23.1 f1 g0).bind fun r26 => (if r26 = 124 then ((zf_M_lands 1 e23.2.2.1 e23.2.2.2.1 r15.2.2.2.2.2.2.2.1 e23.2.2.2.2).bind fun r33 => ((zf_M_here e23.1 f1 g0).bind fun r34 => (if r34 = 38 then ((zf_M_jumps 11 r33.1 e23.2.2.2.1 e23.1 r15.2.2.2.2.2.2.2.1 r33.2).bind fun r37 => (rec r37.2.2.1 e23.2.1 r37.1 r15.2.2.2.2.1 r37.2.1 r15.2.2.2.2.2.2.1 r37.2.2.2.1 r37.2.2.2.2)) else ((zf_M_jumps 12 r33.1 e23.2.2.2.1 e23.1 r15.2.2.2.2.2.2.2.1 r33.2).bind fun r36 => (rec r36.2.2.1 e23.2.1 r36.1 r15.2.2.2.2.1 r36.2.1 r15.2.2.2.2.2.2.1 r36.2.2.2.1 r36.2.2.2.2))))) else ((zf_M_lands 0 e23.2.2.1 e23.2.2.2.1 r15.2.2.2.2.2.2.2.1 e23.2.2.2.2).bind fun r28 => ((zf_M_here e23.1 f1 g0).bind fun r29 => (if r29 = 38 then ((zf_M_jumps 11 r28.1 e23.2.2.2.1 e23.1 r15.2.2.2.2.2.2.2.1 r28.2).bind fun r32 => (rec r32.2.2.1 e23.2.1 r32.1 r15.2.2.2.2.1 r32.2.1 r15.2.2.2.2.2.2.1 r32.2.2.2.1 r32.2.2.2.2)) else ((zf_M_jumps 12 r28.1 e23.2.2.2.1 e23.1 r15.2.2.2.2.2.2.2.1 r28.2).bind fun r31 => (rec r31.2.2.1 e23.2.1 r31.1 r15.2.2.2.2.1 r31.2.1 r15.2.2.2.2.2.2.1 r31.2.2.2.1 r31.2.2.2.2))))))) else ((zf_M_here e23.1 f1 g0).bind fun r38 => (if r38 = 124 then ((zf_M_here e23.1 f1 g0).bind fun r40 => (if r40 = 124 then ((zf_M_lands 1 e23.2.2.1 e23.2.2.2.1 r15.2.2.2.2.2.2.2.1 e23.2.2.2.2).bind fun r47 => ((zf_M_here e23.1 f1 g0).bind fun r48 => (if r48 = 38 then ((zf_M_jumps 11 r47.1 e23.2.2.2.1 e23.1 r15.2.2.2.2.2.2.2.1 r47.2).bind fun r51 => (rec r51.2.2.1 e23.2.1 r51.1 r15.2.2.2.2.1 r51.2.1 r15.2.2.2.2.2.2.1 r51.2.2.2.1 r51.2.2.2.2)) else ((zf_M_jumps 12 r47.1 e23.2.2.2.1 e23.1 r15.2.2.2.2.2.2.2.1 r47.2).bind fun r50 => (rec r50.2.2.1 e23.2.1 r50.1 r15.2.2.2.2.1 r50.2.1 r15.2.2.2.2.2.2.1 r50.2.2.2.1 r50.2.2.2.2))))) else ((zf_M_lands 0 e23.2.2.1 e23.2.2.2.1 r15.2.2.2.2.2.2.2.1 e23.2.2.2.2).bind fun r42 => ((zf_M_here e23.1 f1 g0).bind fun r43 => (if r43 = 38 then ((zf_M_jumps 11 r42.1 e23.2.2.2.1 e23.1 r15.2.2.2.2.2.2.2.1 r42.2).bind fun r46 => (rec r46.2.2.1 e23.2.1 r46.1 r15.2.2.2.2.1 r46.2.1 r15.2.2.2.2.2.2.1 r46.2.2.2.1 r46.2.2.2.2)) else ((zf_M_jumps 12 r42.1 e23.2.2.2.1 e23.1 r15.2.2.2.2.2.2.2.1 r42.2).bind fun r45 => (rec r45.2.2.1 e23.2.1 r45.1 r15.2.2.2.2.1 r45.2.1 r15.2.2.2.2.2.2.1 r45.2.2.2.1 r45.2.2.2.2))))))) else (some (.inl (e23.1, e23.2.1, e23.2.2.1, r15.2.2.2.2.1, e23.2.2.2.1, r15.2.2.2.2.2.2.1, r15.2.2.2.2.2.2.2.1, e23.2.2.2.2)))))))) (fun w52 => some (.inr w52)) q22))))))
def zf_M_readsCondition_l0 (f1 : Int) (g0 : (Int → Int)) : Nat → Int → Int → Int → Int → Int → Int → (Int → Int) → (Int → Int) → Option (((Int × Int × Int × Int × Int × Int × (Int → Int) × (Int → Int)) ⊕ (Int × Int × Int × Int × Int × Int × Int × (Int → Int) × (Int → Int))))
  | 0, _, _, _, _, _, _, _, _ => none
  | n + 1, f0, f2, f3, f4, f5, f6, g1, g2 => zf_M_readsCondition_l0_b f1 g0 (zf_M_readsCondition_l0 f1 g0 n) f0 f2 f3 f4 f5 f6 g1 g2
def zf_M_readsCondition (f0 : Int) (f1 : Int) (f2 : Int) (f3 : Int) (f4 : Int) (f5 : Int) (f6 : Int) (g0 : (Int → Int)) (g1 : (Int → Int)) (g2 : (Int → Int)) : Option (Int × Int × Int × Int × Int × Int × Int × (Int → Int) × (Int → Int)) := (zf_M_here f0 f1 g0).bind fun r1 => (if r1 = 40 then ((zf_M_opens 13 0 0 f0 f4 g1).bind fun r3 => (if r3.1 = 0 then (some (0, r3.2.2.2.1, r3.2.1, r3.2.2.1, r3.2.2.2.2.1, f5, f6, r3.2.2.2.2.2, g2)) else ((zf_M_readsCondition_l0 f1 g0 zi_fu r3.2.2.2.1 r3.2.1 r3.2.2.1 r3.2.2.2.2.1 f5 f6 r3.2.2.2.2.2 g2).bind fun q59 => Sum.elim (fun e60 => ((zf_M_wrongAt 1 e60.1 e60.2.2.2.1).bind fun r61 => (cond (zi_bo r61.1) (some (r61.1, e60.1, e60.2.1, e60.2.2.1, r61.2, e60.2.2.2.2.1, e60.2.2.2.2.2.1, e60.2.2.2.2.2.2.1, e60.2.2.2.2.2.2.2)) none))) (fun w63 => some w63) q59))) else ((zf_M_wrongAt 1 f0 f4).bind fun r64 => (cond (zi_bo r64.1) (some (r64.1, f0, f2, f3, r64.2, f5, f6, g1, g2)) none)))
theorem zd231_0 : decode zxm231.2.1 0 = .ok (.aload_n 0, 1) := by decide +kernel
theorem zd231_1 : decode zxm231.2.1 1 = .ok (.invokevirtual 182, 3) := by decide +kernel
theorem zd231_4 : decode zxm231.2.1 4 = .ok (.bipush 40, 2) := by decide +kernel
theorem zd231_6 : decode zxm231.2.1 6 = .ok (.if_icmp .eq 13, 3) := by decide +kernel
theorem zd231_9 : decode zxm231.2.1 9 = .ok (.aload_n 0, 1) := by decide +kernel
theorem zd231_10 : decode zxm231.2.1 10 = .ok (.iconst 1, 1) := by decide +kernel
theorem zd231_11 : decode zxm231.2.1 11 = .ok (.aload_n 0, 1) := by decide +kernel
theorem zd231_12 : decode zxm231.2.1 12 = .ok (.getfield 176, 3) := by decide +kernel
theorem zd231_15 : decode zxm231.2.1 15 = .ok (.invokevirtual 189, 3) := by decide +kernel
theorem zd231_18 : decode zxm231.2.1 18 = .ok (.ireturn, 1) := by decide +kernel
theorem zd231_19 : decode zxm231.2.1 19 = .ok (.aload_n 0, 1) := by decide +kernel
theorem zd231_20 : decode zxm231.2.1 20 = .ok (.iconst 0, 1) := by decide +kernel
theorem zd231_21 : decode zxm231.2.1 21 = .ok (.putfield 203, 3) := by decide +kernel
theorem zd231_24 : decode zxm231.2.1 24 = .ok (.aload_n 0, 1) := by decide +kernel
theorem zd231_25 : decode zxm231.2.1 25 = .ok (.iconst 0, 1) := by decide +kernel
theorem zd231_26 : decode zxm231.2.1 26 = .ok (.putfield 206, 3) := by decide +kernel
theorem zd231_29 : decode zxm231.2.1 29 = .ok (.aload_n 0, 1) := by decide +kernel
theorem zd231_30 : decode zxm231.2.1 30 = .ok (.bipush 13, 2) := by decide +kernel
theorem zd231_32 : decode zxm231.2.1 32 = .ok (.invokevirtual 216, 3) := by decide +kernel
theorem zd231_35 : decode zxm231.2.1 35 = .ok (.ifCond .ne 5, 3) := by decide +kernel
theorem zd231_38 : decode zxm231.2.1 38 = .ok (.iconst 0, 1) := by decide +kernel
theorem zd231_39 : decode zxm231.2.1 39 = .ok (.ireturn, 1) := by decide +kernel
theorem zd231_40 : decode zxm231.2.1 40 = .ok (.aload_n 0, 1) := by decide +kernel
theorem zd231_41 : decode zxm231.2.1 41 = .ok (.invokevirtual 182, 3) := by decide +kernel
theorem zd231_44 : decode zxm231.2.1 44 = .ok (.bipush 33, 2) := by decide +kernel
theorem zd231_46 : decode zxm231.2.1 46 = .ok (.if_icmp .eq 12, 3) := by decide +kernel
theorem zd231_49 : decode zxm231.2.1 49 = .ok (.aload_n 0, 1) := by decide +kernel
theorem zd231_50 : decode zxm231.2.1 50 = .ok (.invokevirtual 182, 3) := by decide +kernel
theorem zd231_53 : decode zxm231.2.1 53 = .ok (.bipush 40, 2) := by decide +kernel
theorem zd231_55 : decode zxm231.2.1 55 = .ok (.if_icmp .ne 28, 3) := by decide +kernel
theorem zd231_58 : decode zxm231.2.1 58 = .ok (.aload_n 0, 1) := by decide +kernel
theorem zd231_59 : decode zxm231.2.1 59 = .ok (.aload_n 0, 1) := by decide +kernel
theorem zd231_60 : decode zxm231.2.1 60 = .ok (.invokevirtual 182, 3) := by decide +kernel
theorem zd231_63 : decode zxm231.2.1 63 = .ok (.bipush 33, 2) := by decide +kernel
theorem zd231_65 : decode zxm231.2.1 65 = .ok (.if_icmp .ne 8, 3) := by decide +kernel
theorem zd231_68 : decode zxm231.2.1 68 = .ok (.bipush 10, 2) := by decide +kernel
theorem zd231_70 : decode zxm231.2.1 70 = .ok (.goto 5, 3) := by decide +kernel
theorem zd231_73 : decode zxm231.2.1 73 = .ok (.bipush 13, 2) := by decide +kernel
theorem zd231_75 : decode zxm231.2.1 75 = .ok (.invokevirtual 216, 3) := by decide +kernel
theorem zd231_78 : decode zxm231.2.1 78 = .ok (.ifCond .ne (-38), 3) := by decide +kernel
theorem zd231_81 : decode zxm231.2.1 81 = .ok (.iconst 0, 1) := by decide +kernel
theorem zd231_82 : decode zxm231.2.1 82 = .ok (.ireturn, 1) := by decide +kernel
theorem zd231_83 : decode zxm231.2.1 83 = .ok (.aload_n 0, 1) := by decide +kernel
theorem zd231_84 : decode zxm231.2.1 84 = .ok (.invokevirtual 244, 3) := by decide +kernel
theorem zd231_87 : decode zxm231.2.1 87 = .ok (.ifCond .ne 5, 3) := by decide +kernel
theorem zd231_90 : decode zxm231.2.1 90 = .ok (.iconst 0, 1) := by decide +kernel
theorem zd231_91 : decode zxm231.2.1 91 = .ok (.ireturn, 1) := by decide +kernel
theorem zd231_92 : decode zxm231.2.1 92 = .ok (.aload_n 0, 1) := by decide +kernel
theorem zd231_93 : decode zxm231.2.1 93 = .ok (.invokevirtual 182, 3) := by decide +kernel
theorem zd231_96 : decode zxm231.2.1 96 = .ok (.bipush 41, 2) := by decide +kernel
theorem zd231_98 : decode zxm231.2.1 98 = .ok (.if_icmp .ne 54, 3) := by decide +kernel
theorem zd231_101 : decode zxm231.2.1 101 = .ok (.aload_n 0, 1) := by decide +kernel
theorem zd231_102 : decode zxm231.2.1 102 = .ok (.iconst 1, 1) := by decide +kernel
theorem zd231_103 : decode zxm231.2.1 103 = .ok (.invokevirtual 247, 3) := by decide +kernel
theorem zd231_106 : decode zxm231.2.1 106 = .ok (.aload_n 0, 1) := by decide +kernel
theorem zd231_107 : decode zxm231.2.1 107 = .ok (.aload_n 0, 1) := by decide +kernel
theorem zd231_108 : decode zxm231.2.1 108 = .ok (.getfield 206, 3) := by decide +kernel
theorem zd231_111 : decode zxm231.2.1 111 = .ok (.iconst 1, 1) := by decide +kernel
theorem zd231_112 : decode zxm231.2.1 112 = .ok (.isub, 1) := by decide +kernel
theorem zd231_113 : decode zxm231.2.1 113 = .ok (.putfield 206, 3) := by decide +kernel
theorem zd231_116 : decode zxm231.2.1 116 = .ok (.aload_n 0, 1) := by decide +kernel
theorem zd231_117 : decode zxm231.2.1 117 = .ok (.aload_n 0, 1) := by decide +kernel
theorem zd231_118 : decode zxm231.2.1 118 = .ok (.getfield 203, 3) := by decide +kernel
theorem zd231_121 : decode zxm231.2.1 121 = .ok (.iconst 1, 1) := by decide +kernel
theorem zd231_122 : decode zxm231.2.1 122 = .ok (.isub, 1) := by decide +kernel
theorem zd231_123 : decode zxm231.2.1 123 = .ok (.putfield 203, 3) := by decide +kernel
theorem zd231_126 : decode zxm231.2.1 126 = .ok (.aload_n 0, 1) := by decide +kernel
theorem zd231_127 : decode zxm231.2.1 127 = .ok (.aload_n 0, 1) := by decide +kernel
theorem zd231_128 : decode zxm231.2.1 128 = .ok (.getfield 176, 3) := by decide +kernel
theorem zd231_131 : decode zxm231.2.1 131 = .ok (.iconst 1, 1) := by decide +kernel
theorem zd231_132 : decode zxm231.2.1 132 = .ok (.iadd, 1) := by decide +kernel
theorem zd231_133 : decode zxm231.2.1 133 = .ok (.putfield 176, 3) := by decide +kernel
theorem zd231_136 : decode zxm231.2.1 136 = .ok (.aload_n 0, 1) := by decide +kernel
theorem zd231_137 : decode zxm231.2.1 137 = .ok (.getfield 206, 3) := by decide +kernel
theorem zd231_140 : decode zxm231.2.1 140 = .ok (.ifCond .ne 5, 3) := by decide +kernel
theorem zd231_143 : decode zxm231.2.1 143 = .ok (.iconst 1, 1) := by decide +kernel
theorem zd231_144 : decode zxm231.2.1 144 = .ok (.ireturn, 1) := by decide +kernel
theorem zd231_145 : decode zxm231.2.1 145 = .ok (.aload_n 0, 1) := by decide +kernel
theorem zd231_146 : decode zxm231.2.1 146 = .ok (.invokevirtual 241, 3) := by decide +kernel
theorem zd231_149 : decode zxm231.2.1 149 = .ok (.goto (-57), 3) := by decide +kernel
theorem zd231_152 : decode zxm231.2.1 152 = .ok (.aload_n 0, 1) := by decide +kernel
theorem zd231_153 : decode zxm231.2.1 153 = .ok (.invokevirtual 182, 3) := by decide +kernel
theorem zd231_156 : decode zxm231.2.1 156 = .ok (.bipush 38, 2) := by decide +kernel
theorem zd231_158 : decode zxm231.2.1 158 = .ok (.if_icmp .eq 22, 3) := by decide +kernel
theorem zd231_161 : decode zxm231.2.1 161 = .ok (.aload_n 0, 1) := by decide +kernel
theorem zd231_162 : decode zxm231.2.1 162 = .ok (.invokevirtual 182, 3) := by decide +kernel
theorem zd231_165 : decode zxm231.2.1 165 = .ok (.bipush 124, 2) := by decide +kernel
theorem zd231_167 : decode zxm231.2.1 167 = .ok (.if_icmp .eq 13, 3) := by decide +kernel
theorem zd231_170 : decode zxm231.2.1 170 = .ok (.aload_n 0, 1) := by decide +kernel
theorem zd231_171 : decode zxm231.2.1 171 = .ok (.iconst 1, 1) := by decide +kernel
theorem zd231_172 : decode zxm231.2.1 172 = .ok (.aload_n 0, 1) := by decide +kernel
theorem zd231_173 : decode zxm231.2.1 173 = .ok (.getfield 176, 3) := by decide +kernel
theorem zd231_176 : decode zxm231.2.1 176 = .ok (.invokevirtual 189, 3) := by decide +kernel
theorem zd231_179 : decode zxm231.2.1 179 = .ok (.ireturn, 1) := by decide +kernel
theorem zd231_180 : decode zxm231.2.1 180 = .ok (.aload_n 0, 1) := by decide +kernel
theorem zd231_181 : decode zxm231.2.1 181 = .ok (.aload_n 0, 1) := by decide +kernel
theorem zd231_182 : decode zxm231.2.1 182 = .ok (.invokevirtual 182, 3) := by decide +kernel
theorem zd231_185 : decode zxm231.2.1 185 = .ok (.bipush 124, 2) := by decide +kernel
theorem zd231_187 : decode zxm231.2.1 187 = .ok (.if_icmp .ne 7, 3) := by decide +kernel
theorem zd231_190 : decode zxm231.2.1 190 = .ok (.iconst 1, 1) := by decide +kernel
theorem zd231_191 : decode zxm231.2.1 191 = .ok (.goto 4, 3) := by decide +kernel
theorem zd231_194 : decode zxm231.2.1 194 = .ok (.iconst 0, 1) := by decide +kernel
theorem zd231_195 : decode zxm231.2.1 195 = .ok (.invokevirtual 247, 3) := by decide +kernel
theorem zd231_198 : decode zxm231.2.1 198 = .ok (.aload_n 0, 1) := by decide +kernel
theorem zd231_199 : decode zxm231.2.1 199 = .ok (.aload_n 0, 1) := by decide +kernel
theorem zd231_200 : decode zxm231.2.1 200 = .ok (.invokevirtual 182, 3) := by decide +kernel
theorem zd231_203 : decode zxm231.2.1 203 = .ok (.bipush 38, 2) := by decide +kernel
theorem zd231_205 : decode zxm231.2.1 205 = .ok (.if_icmp .ne 8, 3) := by decide +kernel
theorem zd231_208 : decode zxm231.2.1 208 = .ok (.bipush 11, 2) := by decide +kernel
theorem zd231_210 : decode zxm231.2.1 210 = .ok (.goto 5, 3) := by decide +kernel
theorem zd231_213 : decode zxm231.2.1 213 = .ok (.bipush 12, 2) := by decide +kernel
theorem zd231_215 : decode zxm231.2.1 215 = .ok (.invokevirtual 250, 3) := by decide +kernel
theorem zd231_218 : decode zxm231.2.1 218 = .ok (.goto (-178), 3) := by decide +kernel
theorem zt_M_readsCondition {f0 : Int} {f1 : Int} {f2 : Int} {f3 : Int} {f4 : Int} {f5 : Int} {f6 : Int} {g0 : (Int → Int)} {g1 : (Int → Int)} {g2 : (Int → Int)} {o : Int × Int × Int × Int × Int × Int × Int × (Int → Int) × (Int → Int)} (h : zf_M_readsCondition f0 f1 f2 f3 f4 f5 f6 g0 g1 g2 = some o) : zv_Fn z_TB z_cl z_KX zy_M_readsCondition zxm231 (6, 360) [.inr 0] [.inl f0, .inl f1, .inl f2, .inl f3, .inl f4, .inl f5, .inl f6] [g0, g1, g2] (some o.1) [.inl o.2.1, .inl f1, .inl o.2.2.1, .inl o.2.2.2.1, .inl o.2.2.2.2.1, .inl o.2.2.2.2.2.1, .inl o.2.2.2.2.2.2.1] [g0, o.2.2.2.2.2.2.2.1, o.2.2.2.2.2.2.2.2] := zv_meth (K := (z_KF13, z_KC13, z_KL13, z_KT13, [], [], [], none)) (FT := z_FT) (MT := z_MT) (n := 1) zxp231 (z_ks13 _ (fun _ h => List.mem_cons_of_mem _ h) _ _ _ _ (fun j r h _ => by cases h)) (fun _ _ => zs_KX_p) zyw_M_readsCondition (fun va F G h => by obtain ⟨rfl, _⟩ := h; rfl) (fun va F G h => by obtain ⟨rfl, _⟩ := h; rfl) rfl fun good va F G hB hret hvret hP => by
  obtain ⟨rfl, rfl, rfl⟩ := hP
  have l1 : ∀ (n : Nat) (f0 : Int) (f2 : Int) (f3 : Int) (f4 : Int) (f5 : Int) (f6 : Int) (g1 : (Int → Int)) (g2 : (Int → Int)) (q : ((Int × Int × Int × Int × (Int → Int)) ⊕ (Int × Int × Int × Int × Int × Int × Int × (Int → Int) × (Int → Int)))), zf_M_readsCondition_l1 f1 f4 f6 g0 g1 n f0 f2 f3 f5 g2 = some q → (Sum.elim (fun e : Int × Int × Int × Int × (Int → Int) => good 152 [.inr 0] [] [.inl e.1, .inl f1, .inl e.2.1, .inl e.2.2.1, .inl f4, .inl e.2.2.2.1, .inl f6] [g0, g1, e.2.2.2.2]) (fun w : Int × Int × Int × Int × Int × Int × Int × (Int → Int) × (Int → Int) => w = o) q) → good 92 [.inr 0] [] [.inl f0, .inl f1, .inl f2, .inl f3, .inl f4, .inl f5, .inl f6] [g0, g1, g2] := by
    intro n
    induction n with
    | zero => intro f0 f2 f3 f4 f5 f6 g1 g2 q h; exact absurd (show none = some q from h) (fun h => by cases h)
    | succ n ih =>
      intro f0 f2 f3 f4 f5 f6 g1 g2 q h hK
      replace h : zf_M_readsCondition_l1_b f1 f4 f6 g0 g1 (zf_M_readsCondition_l1 f1 f4 f6 g0 g1 n) f0 f2 f3 f5 g2 = some q := h
      unfold zf_M_readsCondition_l1_b at h
      refine zv_ald hB zd231_92 rfl rfl rfl ?_
      obtain ⟨r17, hr17, h⟩ := zi_bind h
      refine zv_cv hB (zv_emq (va2 := [.inr 0]) (F := [.inl f0, .inl f1, .inl f2, .inl f3, .inl f4, .inl f5, .inl f6]) (F' := [.inl f0, .inl f1, .inl f2, .inl f3, .inl f4, .inl f5, .inl f6]) (G := [g0, g1, g2]) (G' := [g0, g1, g2]) (ρ := [0, 1]) (φ := [0, 1]) (ψ := [0]) [some 0, some 1, none, none, none, none, none] [some 0, none, none] zyw_M_here zyw_M_readsCondition zye_M_readsCondition (by decide +kernel) (zt_M_here hr17) ⟨⟨_, rfl, fun _ => rfl⟩, ⟨_, rfl, fun _ => rfl⟩, trivial⟩ ⟨rfl, trivial⟩ rfl rfl rfl rfl rfl rfl rfl) zd231_93 zxt217 rfl (by decide) (by decide) rfl ?_
      refine zv_con hB zd231_96 rfl ?_
      refine zv_cne hB zd231_98 rfl (fun hc18 => ?_) (fun hc18 => ?_)
      · rw [if_neg hc18] at h
        have hq := Option.some.inj h
        subst hq
        exact hK
      · rw [if_pos hc18] at h
        refine zv_ald hB zd231_101 rfl rfl rfl ?_
        refine zv_con hB zd231_102 rfl ?_
        obtain ⟨r19, hr19, h⟩ := zi_bind h
        refine zv_cv hB (zv_emq (va2 := [.inr 0, .inl 1]) (F := [.inl f0, .inl f1, .inl f2, .inl f3, .inl f4, .inl f5, .inl f6]) (F' := [.inl f0, .inl f1, .inl f2, .inl r19.1, .inl f4, .inl f5, .inl f6]) (G := [g0, g1, g2]) (G' := [g0, g1, r19.2]) (ρ := [0, 2, 3]) (φ := [3, 5]) (ψ := [1, 2]) [none, none, none, some 0, none, some 1, none] [none, some 0, some 1] zyw_M_lands zyw_M_readsCondition zye_M_readsCondition (by decide +kernel) (zt_M_lands hr19) ⟨⟨_, rfl, fun _ => rfl⟩, ⟨_, rfl, fun _ => rfl⟩, trivial⟩ ⟨rfl, rfl, trivial⟩ rfl rfl rfl rfl rfl rfl rfl) zd231_103 zxt234 rfl (by decide) (by decide) rfl ?_
        refine zv_ald hB zd231_106 rfl rfl rfl ?_
        refine zv_ald hB zd231_107 rfl rfl rfl ?_
        refine zv_getf hB zd231_108 rfl rfl (fun _ _ => ?_)
        refine zv_con hB zd231_111 rfl ?_
        refine zv_subw hB zd231_112 ?_
        refine zv_putf hB zd231_113 rfl rfl (fun h => by cases h) rfl ?_
        refine zv_ald hB zd231_116 rfl rfl rfl ?_
        refine zv_ald hB zd231_117 rfl rfl rfl ?_
        refine zv_getf hB zd231_118 rfl rfl (fun _ _ => ?_)
        refine zv_con hB zd231_121 rfl ?_
        refine zv_subw hB zd231_122 ?_
        refine zv_putf hB zd231_123 rfl rfl (fun h => by cases h) rfl ?_
        refine zv_ald hB zd231_126 rfl rfl rfl ?_
        refine zv_ald hB zd231_127 rfl rfl rfl ?_
        refine zv_getf hB zd231_128 rfl rfl (fun _ _ => ?_)
        refine zv_con hB zd231_131 rfl ?_
        refine zv_addw hB zd231_132 ?_
        refine zv_putf hB zd231_133 rfl rfl (fun h => by cases h) rfl ?_
        refine zv_ald hB zd231_136 rfl rfl rfl ?_
        refine zv_getf hB zd231_137 rfl rfl (fun _ _ => ?_)
        refine zv_zne hB zd231_140 rfl (fun hc20 => ?_) (fun hc20 => ?_)
        · rw [if_neg hc20] at h
          refine zv_ald hB zd231_145 rfl rfl rfl ?_
          obtain ⟨r21, hr21, h⟩ := zi_bind h
          refine zv_cv hB (zv_emq (va2 := [.inr 0]) (F := [.inl (zi_w (f0 + 1)), .inl f1, .inl (zi_w (f2 - 1)), .inl (zi_w (r19.1 - 1)), .inl f4, .inl f5, .inl f6]) (F' := [.inl (zi_w (f0 + 1)), .inl f1, .inl r21.2.2.1, .inl r21.1, .inl f4, .inl r21.2.1, .inl f6]) (G := [g0, g1, r19.2]) (G' := [g0, g1, r21.2.2.2]) (ρ := [0, 2, 3]) (φ := [3, 5, 2]) (ψ := [1, 2]) [none, none, some 2, some 0, none, some 1, none] [none, some 0, some 1] zyw_M_endsPiece zyw_M_readsCondition zye_M_readsCondition (by decide +kernel) (zt_M_endsPiece hr21) ⟨⟨_, rfl, fun _ => rfl⟩, ⟨_, rfl, fun _ => rfl⟩, ⟨_, rfl, fun _ => rfl⟩, trivial⟩ ⟨rfl, rfl, trivial⟩ rfl rfl rfl rfl rfl rfl rfl) zd231_146 zxt233 rfl (by decide) (by decide) rfl ?_
          refine zv_goto hB zd231_149 rfl ?_
          exact ih _ _ _ _ _ _ _ _ q h hK
        · rw [if_pos hc20] at h
          refine zv_con hB zd231_143 rfl ?_
          have hw : (1, (zi_w (f0 + 1)), (zi_w (f2 - 1)), (zi_w (r19.1 - 1)), f4, f5, f6, g1, r19.2) = o := zi_rk (Option.some.inj h) hK
          subst hw
          exact hret _ _ _ _ _ zd231_144 (by constructor <;> decide) ⟨rfl, rfl, rfl⟩
  have l0 : ∀ (n : Nat) (f0 : Int) (f2 : Int) (f3 : Int) (f4 : Int) (f5 : Int) (f6 : Int) (g1 : (Int → Int)) (g2 : (Int → Int)) (q : ((Int × Int × Int × Int × Int × Int × (Int → Int) × (Int → Int)) ⊕ (Int × Int × Int × Int × Int × Int × Int × (Int → Int) × (Int → Int)))), zf_M_readsCondition_l0 f1 g0 n f0 f2 f3 f4 f5 f6 g1 g2 = some q → (Sum.elim (fun e : Int × Int × Int × Int × Int × Int × (Int → Int) × (Int → Int) => good 170 [.inr 0] [] [.inl e.1, .inl f1, .inl e.2.1, .inl e.2.2.1, .inl e.2.2.2.1, .inl e.2.2.2.2.1, .inl e.2.2.2.2.2.1] [g0, e.2.2.2.2.2.2.1, e.2.2.2.2.2.2.2]) (fun w : Int × Int × Int × Int × Int × Int × Int × (Int → Int) × (Int → Int) => w = o) q) → good 40 [.inr 0] [] [.inl f0, .inl f1, .inl f2, .inl f3, .inl f4, .inl f5, .inl f6] [g0, g1, g2] := by
    intro n
    induction n with
    | zero => intro f0 f2 f3 f4 f5 f6 g1 g2 q h; exact absurd (show none = some q from h) (fun h => by cases h)
    | succ n ih =>
      intro f0 f2 f3 f4 f5 f6 g1 g2 q h hK
      replace h : zf_M_readsCondition_l0_b f1 g0 (zf_M_readsCondition_l0 f1 g0 n) f0 f2 f3 f4 f5 f6 g1 g2 = some q := h
      unfold zf_M_readsCondition_l0_b at h
      refine zv_ald hB zd231_40 rfl rfl rfl ?_
      obtain ⟨r5, hr5, h⟩ := zi_bind h
      refine zv_cv hB (zv_emq (va2 := [.inr 0]) (F := [.inl f0, .inl f1, .inl f2, .inl f3, .inl f4, .inl f5, .inl f6]) (F' := [.inl f0, .inl f1, .inl f2, .inl f3, .inl f4, .inl f5, .inl f6]) (G := [g0, g1, g2]) (G' := [g0, g1, g2]) (ρ := [0, 1]) (φ := [0, 1]) (ψ := [0]) [some 0, some 1, none, none, none, none, none] [some 0, none, none] zyw_M_here zyw_M_readsCondition zye_M_readsCondition (by decide +kernel) (zt_M_here hr5) ⟨⟨_, rfl, fun _ => rfl⟩, ⟨_, rfl, fun _ => rfl⟩, trivial⟩ ⟨rfl, trivial⟩ rfl rfl rfl rfl rfl rfl rfl) zd231_41 zxt217 rfl (by decide) (by decide) rfl ?_
      refine zv_con hB zd231_44 rfl ?_
      refine zv_ceq hB zd231_46 rfl (fun hc6 => ?_) (fun hc6 => ?_)
      · rw [if_pos hc6] at h
        refine zv_ald hB zd231_58 rfl rfl rfl ?_
        refine zv_ald hB zd231_59 rfl rfl rfl ?_
        obtain ⟨r7, hr7, h⟩ := zi_bind h
        refine zv_cv hB (zv_emq (va2 := [.inr 0]) (F := [.inl f0, .inl f1, .inl f2, .inl f3, .inl f4, .inl f5, .inl f6]) (F' := [.inl f0, .inl f1, .inl f2, .inl f3, .inl f4, .inl f5, .inl f6]) (G := [g0, g1, g2]) (G' := [g0, g1, g2]) (ρ := [0, 1]) (φ := [0, 1]) (ψ := [0]) [some 0, some 1, none, none, none, none, none] [some 0, none, none] zyw_M_here zyw_M_readsCondition zye_M_readsCondition (by decide +kernel) (zt_M_here hr7) ⟨⟨_, rfl, fun _ => rfl⟩, ⟨_, rfl, fun _ => rfl⟩, trivial⟩ ⟨rfl, trivial⟩ rfl rfl rfl rfl rfl rfl rfl) zd231_60 zxt217 rfl (by decide) (by decide) rfl ?_
        refine zv_con hB zd231_63 rfl ?_
        refine zv_cne hB zd231_65 rfl (fun hc8 => ?_) (fun hc8 => ?_)
        · rw [if_neg hc8] at h
          refine zv_con hB zd231_73 rfl ?_
          obtain ⟨r9, hr9, h⟩ := zi_bind h
          refine zv_cv hB (zv_emq (va2 := [.inr 0, .inl 13]) (F := [.inl f0, .inl f1, .inl f2, .inl f3, .inl f4, .inl f5, .inl f6]) (F' := [.inl r9.2.2.2.1, .inl f1, .inl r9.2.1, .inl r9.2.2.1, .inl r9.2.2.2.2.1, .inl f5, .inl f6]) (G := [g0, g1, g2]) (G' := [g0, r9.2.2.2.2.2, g2]) (ρ := [0, 2]) (φ := [2, 3, 0, 4]) (ψ := [1]) [some 2, none, some 0, some 1, some 3, none, none] [none, some 0, none] zyw_M_opens zyw_M_readsCondition zye_M_readsCondition (by decide +kernel) (zt_M_opens hr9) ⟨⟨_, rfl, fun _ => rfl⟩, ⟨_, rfl, fun _ => rfl⟩, ⟨_, rfl, fun _ => rfl⟩, ⟨_, rfl, fun _ => rfl⟩, trivial⟩ ⟨rfl, trivial⟩ rfl rfl rfl rfl rfl rfl rfl) zd231_75 zxt222 rfl (by decide) (by decide) rfl ?_
          refine zv_zne hB zd231_78 rfl (fun hc10 => ?_) (fun hc10 => ?_)
          · rw [if_neg hc10] at h
            exact ih _ _ _ _ _ _ _ _ q h hK
          · rw [if_pos hc10] at h
            refine zv_con hB zd231_81 rfl ?_
            have hw : (0, r9.2.2.2.1, r9.2.1, r9.2.2.1, r9.2.2.2.2.1, f5, f6, r9.2.2.2.2.2, g2) = o := zi_rk (Option.some.inj h) hK
            subst hw
            exact hret _ _ _ _ _ zd231_82 (by constructor <;> decide) ⟨rfl, rfl, rfl⟩
        · rw [if_pos hc8] at h
          refine zv_con hB zd231_68 rfl ?_
          refine zv_goto hB zd231_70 rfl ?_
          obtain ⟨r11, hr11, h⟩ := zi_bind h
          refine zv_cv hB (zv_emq (va2 := [.inr 0, .inl 10]) (F := [.inl f0, .inl f1, .inl f2, .inl f3, .inl f4, .inl f5, .inl f6]) (F' := [.inl r11.2.2.2.1, .inl f1, .inl r11.2.1, .inl r11.2.2.1, .inl r11.2.2.2.2.1, .inl f5, .inl f6]) (G := [g0, g1, g2]) (G' := [g0, r11.2.2.2.2.2, g2]) (ρ := [0, 2]) (φ := [2, 3, 0, 4]) (ψ := [1]) [some 2, none, some 0, some 1, some 3, none, none] [none, some 0, none] zyw_M_opens zyw_M_readsCondition zye_M_readsCondition (by decide +kernel) (zt_M_opens hr11) ⟨⟨_, rfl, fun _ => rfl⟩, ⟨_, rfl, fun _ => rfl⟩, ⟨_, rfl, fun _ => rfl⟩, ⟨_, rfl, fun _ => rfl⟩, trivial⟩ ⟨rfl, trivial⟩ rfl rfl rfl rfl rfl rfl rfl) zd231_75 zxt222 rfl (by decide) (by decide) rfl ?_
          refine zv_zne hB zd231_78 rfl (fun hc12 => ?_) (fun hc12 => ?_)
          · rw [if_neg hc12] at h
            exact ih _ _ _ _ _ _ _ _ q h hK
          · rw [if_pos hc12] at h
            refine zv_con hB zd231_81 rfl ?_
            have hw : (0, r11.2.2.2.1, r11.2.1, r11.2.2.1, r11.2.2.2.2.1, f5, f6, r11.2.2.2.2.2, g2) = o := zi_rk (Option.some.inj h) hK
            subst hw
            exact hret _ _ _ _ _ zd231_82 (by constructor <;> decide) ⟨rfl, rfl, rfl⟩
      · rw [if_neg hc6] at h
        refine zv_ald hB zd231_49 rfl rfl rfl ?_
        obtain ⟨r13, hr13, h⟩ := zi_bind h
        refine zv_cv hB (zv_emq (va2 := [.inr 0]) (F := [.inl f0, .inl f1, .inl f2, .inl f3, .inl f4, .inl f5, .inl f6]) (F' := [.inl f0, .inl f1, .inl f2, .inl f3, .inl f4, .inl f5, .inl f6]) (G := [g0, g1, g2]) (G' := [g0, g1, g2]) (ρ := [0, 1]) (φ := [0, 1]) (ψ := [0]) [some 0, some 1, none, none, none, none, none] [some 0, none, none] zyw_M_here zyw_M_readsCondition zye_M_readsCondition (by decide +kernel) (zt_M_here hr13) ⟨⟨_, rfl, fun _ => rfl⟩, ⟨_, rfl, fun _ => rfl⟩, trivial⟩ ⟨rfl, trivial⟩ rfl rfl rfl rfl rfl rfl rfl) zd231_50 zxt217 rfl (by decide) (by decide) rfl ?_
        refine zv_con hB zd231_53 rfl ?_
        refine zv_cne hB zd231_55 rfl (fun hc14 => ?_) (fun hc14 => ?_)
        · rw [if_neg hc14] at h
          refine zv_ald hB zd231_83 rfl rfl rfl ?_
          obtain ⟨r15, hr15, h⟩ := zi_bind h
          refine zv_cv hB (zv_emq (va2 := [.inr 0]) (F := [.inl f0, .inl f1, .inl f2, .inl f3, .inl f4, .inl f5, .inl f6]) (F' := [.inl r15.2.2.1, .inl f1, .inl r15.2.2.2.1, .inl r15.2.1, .inl r15.2.2.2.2.1, .inl r15.2.2.2.2.2.1, .inl r15.2.2.2.2.2.2.1]) (G := [g0, g1, g2]) (G' := [g0, r15.2.2.2.2.2.2.2.1, r15.2.2.2.2.2.2.2.2]) (ρ := [0, 1, 2, 3]) (φ := [3, 0, 1, 2, 4, 5, 6]) (ψ := [0, 1, 2]) [some 1, some 2, some 3, some 0, some 4, some 5, some 6] [some 0, some 1, some 2] zyw_M_readsCompared zyw_M_readsCondition zye_M_readsCondition (by decide +kernel) (zt_M_readsCompared hr15) ⟨⟨_, rfl, fun _ => rfl⟩, ⟨_, rfl, fun _ => rfl⟩, ⟨_, rfl, fun _ => rfl⟩, ⟨_, rfl, fun _ => rfl⟩, ⟨_, rfl, fun _ => rfl⟩, ⟨_, rfl, fun _ => rfl⟩, ⟨_, rfl, fun _ => rfl⟩, trivial⟩ ⟨rfl, rfl, rfl, trivial⟩ rfl rfl rfl rfl rfl rfl rfl) zd231_84 zxt232 rfl (by decide) (by decide) rfl ?_
          refine zv_zne hB zd231_87 rfl (fun hc16 => ?_) (fun hc16 => ?_)
          · rw [if_neg hc16] at h
            obtain ⟨q22, hq22, h⟩ := zi_bind h
            refine l1 _ _ _ _ _ _ _ _ _ q22 hq22 ?_
            rcases q22 with e23 | w52
            · replace h := zi_sl h
              show good 152 [.inr 0] [] [.inl e23.1, .inl f1, .inl e23.2.1, .inl e23.2.2.1, .inl r15.2.2.2.2.1, .inl e23.2.2.2.1, .inl r15.2.2.2.2.2.2.1] [g0, r15.2.2.2.2.2.2.2.1, e23.2.2.2.2]
              refine zv_ald hB zd231_152 rfl rfl rfl ?_
              obtain ⟨r24, hr24, h⟩ := zi_bind h
              refine zv_cv hB (zv_emq (va2 := [.inr 0]) (F := [.inl e23.1, .inl f1, .inl e23.2.1, .inl e23.2.2.1, .inl r15.2.2.2.2.1, .inl e23.2.2.2.1, .inl r15.2.2.2.2.2.2.1]) (F' := [.inl e23.1, .inl f1, .inl e23.2.1, .inl e23.2.2.1, .inl r15.2.2.2.2.1, .inl e23.2.2.2.1, .inl r15.2.2.2.2.2.2.1]) (G := [g0, r15.2.2.2.2.2.2.2.1, e23.2.2.2.2]) (G' := [g0, r15.2.2.2.2.2.2.2.1, e23.2.2.2.2]) (ρ := [0, 1]) (φ := [0, 1]) (ψ := [0]) [some 0, some 1, none, none, none, none, none] [some 0, none, none] zyw_M_here zyw_M_readsCondition zye_M_readsCondition (by decide +kernel) (zt_M_here hr24) ⟨⟨_, rfl, fun _ => rfl⟩, ⟨_, rfl, fun _ => rfl⟩, trivial⟩ ⟨rfl, trivial⟩ rfl rfl rfl rfl rfl rfl rfl) zd231_153 zxt217 rfl (by decide) (by decide) rfl ?_
              refine zv_con hB zd231_156 rfl ?_
              refine zv_ceq hB zd231_158 rfl (fun hc25 => ?_) (fun hc25 => ?_)
              · rw [if_pos hc25] at h
                refine zv_ald hB zd231_180 rfl rfl rfl ?_
                refine zv_ald hB zd231_181 rfl rfl rfl ?_
                obtain ⟨r26, hr26, h⟩ := zi_bind h
                refine zv_cv hB (zv_emq (va2 := [.inr 0]) (F := [.inl e23.1, .inl f1, .inl e23.2.1, .inl e23.2.2.1, .inl r15.2.2.2.2.1, .inl e23.2.2.2.1, .inl r15.2.2.2.2.2.2.1]) (F' := [.inl e23.1, .inl f1, .inl e23.2.1, .inl e23.2.2.1, .inl r15.2.2.2.2.1, .inl e23.2.2.2.1, .inl r15.2.2.2.2.2.2.1]) (G := [g0, r15.2.2.2.2.2.2.2.1, e23.2.2.2.2]) (G' := [g0, r15.2.2.2.2.2.2.2.1, e23.2.2.2.2]) (ρ := [0, 1]) (φ := [0, 1]) (ψ := [0]) [some 0, some 1, none, none, none, none, none] [some 0, none, none] zyw_M_here zyw_M_readsCondition zye_M_readsCondition (by decide +kernel) (zt_M_here hr26) ⟨⟨_, rfl, fun _ => rfl⟩, ⟨_, rfl, fun _ => rfl⟩, trivial⟩ ⟨rfl, trivial⟩ rfl rfl rfl rfl rfl rfl rfl) zd231_182 zxt217 rfl (by decide) (by decide) rfl ?_
                refine zv_con hB zd231_185 rfl ?_
                refine zv_cne hB zd231_187 rfl (fun hc27 => ?_) (fun hc27 => ?_)
                · rw [if_neg hc27] at h
                  refine zv_con hB zd231_194 rfl ?_
                  obtain ⟨r28, hr28, h⟩ := zi_bind h
                  refine zv_cv hB (zv_emq (va2 := [.inr 0, .inl 0]) (F := [.inl e23.1, .inl f1, .inl e23.2.1, .inl e23.2.2.1, .inl r15.2.2.2.2.1, .inl e23.2.2.2.1, .inl r15.2.2.2.2.2.2.1]) (F' := [.inl e23.1, .inl f1, .inl e23.2.1, .inl r28.1, .inl r15.2.2.2.2.1, .inl e23.2.2.2.1, .inl r15.2.2.2.2.2.2.1]) (G := [g0, r15.2.2.2.2.2.2.2.1, e23.2.2.2.2]) (G' := [g0, r15.2.2.2.2.2.2.2.1, r28.2]) (ρ := [0, 2, 3]) (φ := [3, 5]) (ψ := [1, 2]) [none, none, none, some 0, none, some 1, none] [none, some 0, some 1] zyw_M_lands zyw_M_readsCondition zye_M_readsCondition (by decide +kernel) (zt_M_lands hr28) ⟨⟨_, rfl, fun _ => rfl⟩, ⟨_, rfl, fun _ => rfl⟩, trivial⟩ ⟨rfl, rfl, trivial⟩ rfl rfl rfl rfl rfl rfl rfl) zd231_195 zxt234 rfl (by decide) (by decide) rfl ?_
                  refine zv_ald hB zd231_198 rfl rfl rfl ?_
                  refine zv_ald hB zd231_199 rfl rfl rfl ?_
                  obtain ⟨r29, hr29, h⟩ := zi_bind h
                  refine zv_cv hB (zv_emq (va2 := [.inr 0]) (F := [.inl e23.1, .inl f1, .inl e23.2.1, .inl r28.1, .inl r15.2.2.2.2.1, .inl e23.2.2.2.1, .inl r15.2.2.2.2.2.2.1]) (F' := [.inl e23.1, .inl f1, .inl e23.2.1, .inl r28.1, .inl r15.2.2.2.2.1, .inl e23.2.2.2.1, .inl r15.2.2.2.2.2.2.1]) (G := [g0, r15.2.2.2.2.2.2.2.1, r28.2]) (G' := [g0, r15.2.2.2.2.2.2.2.1, r28.2]) (ρ := [0, 1]) (φ := [0, 1]) (ψ := [0]) [some 0, some 1, none, none, none, none, none] [some 0, none, none] zyw_M_here zyw_M_readsCondition zye_M_readsCondition (by decide +kernel) (zt_M_here hr29) ⟨⟨_, rfl, fun _ => rfl⟩, ⟨_, rfl, fun _ => rfl⟩, trivial⟩ ⟨rfl, trivial⟩ rfl rfl rfl rfl rfl rfl rfl) zd231_200 zxt217 rfl (by decide) (by decide) rfl ?_
                  refine zv_con hB zd231_203 rfl ?_
                  refine zv_cne hB zd231_205 rfl (fun hc30 => ?_) (fun hc30 => ?_)
                  · rw [if_neg hc30] at h
                    refine zv_con hB zd231_213 rfl ?_
                    obtain ⟨r31, hr31, h⟩ := zi_bind h
                    refine zv_cv hB (zv_emq (va2 := [.inr 0, .inl 12]) (F := [.inl e23.1, .inl f1, .inl e23.2.1, .inl r28.1, .inl r15.2.2.2.2.1, .inl e23.2.2.2.1, .inl r15.2.2.2.2.2.2.1]) (F' := [.inl r31.2.2.1, .inl f1, .inl e23.2.1, .inl r31.1, .inl r15.2.2.2.2.1, .inl r31.2.1, .inl r15.2.2.2.2.2.2.1]) (G := [g0, r15.2.2.2.2.2.2.2.1, r28.2]) (G' := [g0, r31.2.2.2.1, r31.2.2.2.2]) (ρ := [0, 2, 3]) (φ := [3, 5, 0]) (ψ := [1, 2]) [some 2, none, none, some 0, none, some 1, none] [none, some 0, some 1] zyw_M_jumps zyw_M_readsCondition zye_M_readsCondition (by decide +kernel) (zt_M_jumps hr31) ⟨⟨_, rfl, fun _ => rfl⟩, ⟨_, rfl, fun _ => rfl⟩, ⟨_, rfl, fun _ => rfl⟩, trivial⟩ ⟨rfl, rfl, trivial⟩ rfl rfl rfl rfl rfl rfl rfl) zd231_215 zxt235 rfl (by decide) (by decide) rfl ?_
                    refine zv_goto hB zd231_218 rfl ?_
                    exact ih _ _ _ _ _ _ _ _ q h hK
                  · rw [if_pos hc30] at h
                    refine zv_con hB zd231_208 rfl ?_
                    refine zv_goto hB zd231_210 rfl ?_
                    obtain ⟨r32, hr32, h⟩ := zi_bind h
                    refine zv_cv hB (zv_emq (va2 := [.inr 0, .inl 11]) (F := [.inl e23.1, .inl f1, .inl e23.2.1, .inl r28.1, .inl r15.2.2.2.2.1, .inl e23.2.2.2.1, .inl r15.2.2.2.2.2.2.1]) (F' := [.inl r32.2.2.1, .inl f1, .inl e23.2.1, .inl r32.1, .inl r15.2.2.2.2.1, .inl r32.2.1, .inl r15.2.2.2.2.2.2.1]) (G := [g0, r15.2.2.2.2.2.2.2.1, r28.2]) (G' := [g0, r32.2.2.2.1, r32.2.2.2.2]) (ρ := [0, 2, 3]) (φ := [3, 5, 0]) (ψ := [1, 2]) [some 2, none, none, some 0, none, some 1, none] [none, some 0, some 1] zyw_M_jumps zyw_M_readsCondition zye_M_readsCondition (by decide +kernel) (zt_M_jumps hr32) ⟨⟨_, rfl, fun _ => rfl⟩, ⟨_, rfl, fun _ => rfl⟩, ⟨_, rfl, fun _ => rfl⟩, trivial⟩ ⟨rfl, rfl, trivial⟩ rfl rfl rfl rfl rfl rfl rfl) zd231_215 zxt235 rfl (by decide) (by decide) rfl ?_
                    refine zv_goto hB zd231_218 rfl ?_
                    exact ih _ _ _ _ _ _ _ _ q h hK
                · rw [if_pos hc27] at h
                  refine zv_con hB zd231_190 rfl ?_
                  refine zv_goto hB zd231_191 rfl ?_
                  obtain ⟨r33, hr33, h⟩ := zi_bind h
                  refine zv_cv hB (zv_emq (va2 := [.inr 0, .inl 1]) (F := [.inl e23.1, .inl f1, .inl e23.2.1, .inl e23.2.2.1, .inl r15.2.2.2.2.1, .inl e23.2.2.2.1, .inl r15.2.2.2.2.2.2.1]) (F' := [.inl e23.1, .inl f1, .inl e23.2.1, .inl r33.1, .inl r15.2.2.2.2.1, .inl e23.2.2.2.1, .inl r15.2.2.2.2.2.2.1]) (G := [g0, r15.2.2.2.2.2.2.2.1, e23.2.2.2.2]) (G' := [g0, r15.2.2.2.2.2.2.2.1, r33.2]) (ρ := [0, 2, 3]) (φ := [3, 5]) (ψ := [1, 2]) [none, none, none, some 0, none, some 1, none] [none, some 0, some 1] zyw_M_lands zyw_M_readsCondition zye_M_readsCondition (by decide +kernel) (zt_M_lands hr33) ⟨⟨_, rfl, fun _ => rfl⟩, ⟨_, rfl, fun _ => rfl⟩, trivial⟩ ⟨rfl, rfl, trivial⟩ rfl rfl rfl rfl rfl rfl rfl) zd231_195 zxt234 rfl (by decide) (by decide) rfl ?_
                  refine zv_ald hB zd231_198 rfl rfl rfl ?_
                  refine zv_ald hB zd231_199 rfl rfl rfl ?_
                  obtain ⟨r34, hr34, h⟩ := zi_bind h
                  refine zv_cv hB (zv_emq (va2 := [.inr 0]) (F := [.inl e23.1, .inl f1, .inl e23.2.1, .inl r33.1, .inl r15.2.2.2.2.1, .inl e23.2.2.2.1, .inl r15.2.2.2.2.2.2.1]) (F' := [.inl e23.1, .inl f1, .inl e23.2.1, .inl r33.1, .inl r15.2.2.2.2.1, .inl e23.2.2.2.1, .inl r15.2.2.2.2.2.2.1]) (G := [g0, r15.2.2.2.2.2.2.2.1, r33.2]) (G' := [g0, r15.2.2.2.2.2.2.2.1, r33.2]) (ρ := [0, 1]) (φ := [0, 1]) (ψ := [0]) [some 0, some 1, none, none, none, none, none] [some 0, none, none] zyw_M_here zyw_M_readsCondition zye_M_readsCondition (by decide +kernel) (zt_M_here hr34) ⟨⟨_, rfl, fun _ => rfl⟩, ⟨_, rfl, fun _ => rfl⟩, trivial⟩ ⟨rfl, trivial⟩ rfl rfl rfl rfl rfl rfl rfl) zd231_200 zxt217 rfl (by decide) (by decide) rfl ?_
                  refine zv_con hB zd231_203 rfl ?_
                  refine zv_cne hB zd231_205 rfl (fun hc35 => ?_) (fun hc35 => ?_)
                  · rw [if_neg hc35] at h
                    refine zv_con hB zd231_213 rfl ?_
                    obtain ⟨r36, hr36, h⟩ := zi_bind h
                    refine zv_cv hB (zv_emq (va2 := [.inr 0, .inl 12]) (F := [.inl e23.1, .inl f1, .inl e23.2.1, .inl r33.1, .inl r15.2.2.2.2.1, .inl e23.2.2.2.1, .inl r15.2.2.2.2.2.2.1]) (F' := [.inl r36.2.2.1, .inl f1, .inl e23.2.1, .inl r36.1, .inl r15.2.2.2.2.1, .inl r36.2.1, .inl r15.2.2.2.2.2.2.1]) (G := [g0, r15.2.2.2.2.2.2.2.1, r33.2]) (G' := [g0, r36.2.2.2.1, r36.2.2.2.2]) (ρ := [0, 2, 3]) (φ := [3, 5, 0]) (ψ := [1, 2]) [some 2, none, none, some 0, none, some 1, none] [none, some 0, some 1] zyw_M_jumps zyw_M_readsCondition zye_M_readsCondition (by decide +kernel) (zt_M_jumps hr36) ⟨⟨_, rfl, fun _ => rfl⟩, ⟨_, rfl, fun _ => rfl⟩, ⟨_, rfl, fun _ => rfl⟩, trivial⟩ ⟨rfl, rfl, trivial⟩ rfl rfl rfl rfl rfl rfl rfl) zd231_215 zxt235 rfl (by decide) (by decide) rfl ?_
                    refine zv_goto hB zd231_218 rfl ?_
                    exact ih _ _ _ _ _ _ _ _ q h hK
                  · rw [if_pos hc35] at h
                    refine zv_con hB zd231_208 rfl ?_
                    refine zv_goto hB zd231_210 rfl ?_
                    obtain ⟨r37, hr37, h⟩ := zi_bind h
                    refine zv_cv hB (zv_emq (va2 := [.inr 0, .inl 11]) (F := [.inl e23.1, .inl f1, .inl e23.2.1, .inl r33.1, .inl r15.2.2.2.2.1, .inl e23.2.2.2.1, .inl r15.2.2.2.2.2.2.1]) (F' := [.inl r37.2.2.1, .inl f1, .inl e23.2.1, .inl r37.1, .inl r15.2.2.2.2.1, .inl r37.2.1, .inl r15.2.2.2.2.2.2.1]) (G := [g0, r15.2.2.2.2.2.2.2.1, r33.2]) (G' := [g0, r37.2.2.2.1, r37.2.2.2.2]) (ρ := [0, 2, 3]) (φ := [3, 5, 0]) (ψ := [1, 2]) [some 2, none, none, some 0, none, some 1, none] [none, some 0, some 1] zyw_M_jumps zyw_M_readsCondition zye_M_readsCondition (by decide +kernel) (zt_M_jumps hr37) ⟨⟨_, rfl, fun _ => rfl⟩, ⟨_, rfl, fun _ => rfl⟩, ⟨_, rfl, fun _ => rfl⟩, trivial⟩ ⟨rfl, rfl, trivial⟩ rfl rfl rfl rfl rfl rfl rfl) zd231_215 zxt235 rfl (by decide) (by decide) rfl ?_
                    refine zv_goto hB zd231_218 rfl ?_
                    exact ih _ _ _ _ _ _ _ _ q h hK
              · rw [if_neg hc25] at h
                refine zv_ald hB zd231_161 rfl rfl rfl ?_
                obtain ⟨r38, hr38, h⟩ := zi_bind h
                refine zv_cv hB (zv_emq (va2 := [.inr 0]) (F := [.inl e23.1, .inl f1, .inl e23.2.1, .inl e23.2.2.1, .inl r15.2.2.2.2.1, .inl e23.2.2.2.1, .inl r15.2.2.2.2.2.2.1]) (F' := [.inl e23.1, .inl f1, .inl e23.2.1, .inl e23.2.2.1, .inl r15.2.2.2.2.1, .inl e23.2.2.2.1, .inl r15.2.2.2.2.2.2.1]) (G := [g0, r15.2.2.2.2.2.2.2.1, e23.2.2.2.2]) (G' := [g0, r15.2.2.2.2.2.2.2.1, e23.2.2.2.2]) (ρ := [0, 1]) (φ := [0, 1]) (ψ := [0]) [some 0, some 1, none, none, none, none, none] [some 0, none, none] zyw_M_here zyw_M_readsCondition zye_M_readsCondition (by decide +kernel) (zt_M_here hr38) ⟨⟨_, rfl, fun _ => rfl⟩, ⟨_, rfl, fun _ => rfl⟩, trivial⟩ ⟨rfl, trivial⟩ rfl rfl rfl rfl rfl rfl rfl) zd231_162 zxt217 rfl (by decide) (by decide) rfl ?_
                refine zv_con hB zd231_165 rfl ?_
                refine zv_ceq hB zd231_167 rfl (fun hc39 => ?_) (fun hc39 => ?_)
                · rw [if_pos hc39] at h
                  refine zv_ald hB zd231_180 rfl rfl rfl ?_
                  refine zv_ald hB zd231_181 rfl rfl rfl ?_
                  obtain ⟨r40, hr40, h⟩ := zi_bind h
                  refine zv_cv hB (zv_emq (va2 := [.inr 0]) (F := [.inl e23.1, .inl f1, .inl e23.2.1, .inl e23.2.2.1, .inl r15.2.2.2.2.1, .inl e23.2.2.2.1, .inl r15.2.2.2.2.2.2.1]) (F' := [.inl e23.1, .inl f1, .inl e23.2.1, .inl e23.2.2.1, .inl r15.2.2.2.2.1, .inl e23.2.2.2.1, .inl r15.2.2.2.2.2.2.1]) (G := [g0, r15.2.2.2.2.2.2.2.1, e23.2.2.2.2]) (G' := [g0, r15.2.2.2.2.2.2.2.1, e23.2.2.2.2]) (ρ := [0, 1]) (φ := [0, 1]) (ψ := [0]) [some 0, some 1, none, none, none, none, none] [some 0, none, none] zyw_M_here zyw_M_readsCondition zye_M_readsCondition (by decide +kernel) (zt_M_here hr40) ⟨⟨_, rfl, fun _ => rfl⟩, ⟨_, rfl, fun _ => rfl⟩, trivial⟩ ⟨rfl, trivial⟩ rfl rfl rfl rfl rfl rfl rfl) zd231_182 zxt217 rfl (by decide) (by decide) rfl ?_
                  refine zv_con hB zd231_185 rfl ?_
                  refine zv_cne hB zd231_187 rfl (fun hc41 => ?_) (fun hc41 => ?_)
                  · rw [if_neg hc41] at h
                    refine zv_con hB zd231_194 rfl ?_
                    obtain ⟨r42, hr42, h⟩ := zi_bind h
                    refine zv_cv hB (zv_emq (va2 := [.inr 0, .inl 0]) (F := [.inl e23.1, .inl f1, .inl e23.2.1, .inl e23.2.2.1, .inl r15.2.2.2.2.1, .inl e23.2.2.2.1, .inl r15.2.2.2.2.2.2.1]) (F' := [.inl e23.1, .inl f1, .inl e23.2.1, .inl r42.1, .inl r15.2.2.2.2.1, .inl e23.2.2.2.1, .inl r15.2.2.2.2.2.2.1]) (G := [g0, r15.2.2.2.2.2.2.2.1, e23.2.2.2.2]) (G' := [g0, r15.2.2.2.2.2.2.2.1, r42.2]) (ρ := [0, 2, 3]) (φ := [3, 5]) (ψ := [1, 2]) [none, none, none, some 0, none, some 1, none] [none, some 0, some 1] zyw_M_lands zyw_M_readsCondition zye_M_readsCondition (by decide +kernel) (zt_M_lands hr42) ⟨⟨_, rfl, fun _ => rfl⟩, ⟨_, rfl, fun _ => rfl⟩, trivial⟩ ⟨rfl, rfl, trivial⟩ rfl rfl rfl rfl rfl rfl rfl) zd231_195 zxt234 rfl (by decide) (by decide) rfl ?_
                    refine zv_ald hB zd231_198 rfl rfl rfl ?_
                    refine zv_ald hB zd231_199 rfl rfl rfl ?_
                    obtain ⟨r43, hr43, h⟩ := zi_bind h
                    refine zv_cv hB (zv_emq (va2 := [.inr 0]) (F := [.inl e23.1, .inl f1, .inl e23.2.1, .inl r42.1, .inl r15.2.2.2.2.1, .inl e23.2.2.2.1, .inl r15.2.2.2.2.2.2.1]) (F' := [.inl e23.1, .inl f1, .inl e23.2.1, .inl r42.1, .inl r15.2.2.2.2.1, .inl e23.2.2.2.1, .inl r15.2.2.2.2.2.2.1]) (G := [g0, r15.2.2.2.2.2.2.2.1, r42.2]) (G' := [g0, r15.2.2.2.2.2.2.2.1, r42.2]) (ρ := [0, 1]) (φ := [0, 1]) (ψ := [0]) [some 0, some 1, none, none, none, none, none] [some 0, none, none] zyw_M_here zyw_M_readsCondition zye_M_readsCondition (by decide +kernel) (zt_M_here hr43) ⟨⟨_, rfl, fun _ => rfl⟩, ⟨_, rfl, fun _ => rfl⟩, trivial⟩ ⟨rfl, trivial⟩ rfl rfl rfl rfl rfl rfl rfl) zd231_200 zxt217 rfl (by decide) (by decide) rfl ?_
                    refine zv_con hB zd231_203 rfl ?_
                    refine zv_cne hB zd231_205 rfl (fun hc44 => ?_) (fun hc44 => ?_)
                    · rw [if_neg hc44] at h
                      refine zv_con hB zd231_213 rfl ?_
                      obtain ⟨r45, hr45, h⟩ := zi_bind h
                      refine zv_cv hB (zv_emq (va2 := [.inr 0, .inl 12]) (F := [.inl e23.1, .inl f1, .inl e23.2.1, .inl r42.1, .inl r15.2.2.2.2.1, .inl e23.2.2.2.1, .inl r15.2.2.2.2.2.2.1]) (F' := [.inl r45.2.2.1, .inl f1, .inl e23.2.1, .inl r45.1, .inl r15.2.2.2.2.1, .inl r45.2.1, .inl r15.2.2.2.2.2.2.1]) (G := [g0, r15.2.2.2.2.2.2.2.1, r42.2]) (G' := [g0, r45.2.2.2.1, r45.2.2.2.2]) (ρ := [0, 2, 3]) (φ := [3, 5, 0]) (ψ := [1, 2]) [some 2, none, none, some 0, none, some 1, none] [none, some 0, some 1] zyw_M_jumps zyw_M_readsCondition zye_M_readsCondition (by decide +kernel) (zt_M_jumps hr45) ⟨⟨_, rfl, fun _ => rfl⟩, ⟨_, rfl, fun _ => rfl⟩, ⟨_, rfl, fun _ => rfl⟩, trivial⟩ ⟨rfl, rfl, trivial⟩ rfl rfl rfl rfl rfl rfl rfl) zd231_215 zxt235 rfl (by decide) (by decide) rfl ?_
                      refine zv_goto hB zd231_218 rfl ?_
                      exact ih _ _ _ _ _ _ _ _ q h hK
                    · rw [if_pos hc44] at h
                      refine zv_con hB zd231_208 rfl ?_
                      refine zv_goto hB zd231_210 rfl ?_
                      obtain ⟨r46, hr46, h⟩ := zi_bind h
                      refine zv_cv hB (zv_emq (va2 := [.inr 0, .inl 11]) (F := [.inl e23.1, .inl f1, .inl e23.2.1, .inl r42.1, .inl r15.2.2.2.2.1, .inl e23.2.2.2.1, .inl r15.2.2.2.2.2.2.1]) (F' := [.inl r46.2.2.1, .inl f1, .inl e23.2.1, .inl r46.1, .inl r15.2.2.2.2.1, .inl r46.2.1, .inl r15.2.2.2.2.2.2.1]) (G := [g0, r15.2.2.2.2.2.2.2.1, r42.2]) (G' := [g0, r46.2.2.2.1, r46.2.2.2.2]) (ρ := [0, 2, 3]) (φ := [3, 5, 0]) (ψ := [1, 2]) [some 2, none, none, some 0, none, some 1, none] [none, some 0, some 1] zyw_M_jumps zyw_M_readsCondition zye_M_readsCondition (by decide +kernel) (zt_M_jumps hr46) ⟨⟨_, rfl, fun _ => rfl⟩, ⟨_, rfl, fun _ => rfl⟩, ⟨_, rfl, fun _ => rfl⟩, trivial⟩ ⟨rfl, rfl, trivial⟩ rfl rfl rfl rfl rfl rfl rfl) zd231_215 zxt235 rfl (by decide) (by decide) rfl ?_
                      refine zv_goto hB zd231_218 rfl ?_
                      exact ih _ _ _ _ _ _ _ _ q h hK
                  · rw [if_pos hc41] at h
                    refine zv_con hB zd231_190 rfl ?_
                    refine zv_goto hB zd231_191 rfl ?_
                    obtain ⟨r47, hr47, h⟩ := zi_bind h
                    refine zv_cv hB (zv_emq (va2 := [.inr 0, .inl 1]) (F := [.inl e23.1, .inl f1, .inl e23.2.1, .inl e23.2.2.1, .inl r15.2.2.2.2.1, .inl e23.2.2.2.1, .inl r15.2.2.2.2.2.2.1]) (F' := [.inl e23.1, .inl f1, .inl e23.2.1, .inl r47.1, .inl r15.2.2.2.2.1, .inl e23.2.2.2.1, .inl r15.2.2.2.2.2.2.1]) (G := [g0, r15.2.2.2.2.2.2.2.1, e23.2.2.2.2]) (G' := [g0, r15.2.2.2.2.2.2.2.1, r47.2]) (ρ := [0, 2, 3]) (φ := [3, 5]) (ψ := [1, 2]) [none, none, none, some 0, none, some 1, none] [none, some 0, some 1] zyw_M_lands zyw_M_readsCondition zye_M_readsCondition (by decide +kernel) (zt_M_lands hr47) ⟨⟨_, rfl, fun _ => rfl⟩, ⟨_, rfl, fun _ => rfl⟩, trivial⟩ ⟨rfl, rfl, trivial⟩ rfl rfl rfl rfl rfl rfl rfl) zd231_195 zxt234 rfl (by decide) (by decide) rfl ?_
                    refine zv_ald hB zd231_198 rfl rfl rfl ?_
                    refine zv_ald hB zd231_199 rfl rfl rfl ?_
                    obtain ⟨r48, hr48, h⟩ := zi_bind h
                    refine zv_cv hB (zv_emq (va2 := [.inr 0]) (F := [.inl e23.1, .inl f1, .inl e23.2.1, .inl r47.1, .inl r15.2.2.2.2.1, .inl e23.2.2.2.1, .inl r15.2.2.2.2.2.2.1]) (F' := [.inl e23.1, .inl f1, .inl e23.2.1, .inl r47.1, .inl r15.2.2.2.2.1, .inl e23.2.2.2.1, .inl r15.2.2.2.2.2.2.1]) (G := [g0, r15.2.2.2.2.2.2.2.1, r47.2]) (G' := [g0, r15.2.2.2.2.2.2.2.1, r47.2]) (ρ := [0, 1]) (φ := [0, 1]) (ψ := [0]) [some 0, some 1, none, none, none, none, none] [some 0, none, none] zyw_M_here zyw_M_readsCondition zye_M_readsCondition (by decide +kernel) (zt_M_here hr48) ⟨⟨_, rfl, fun _ => rfl⟩, ⟨_, rfl, fun _ => rfl⟩, trivial⟩ ⟨rfl, trivial⟩ rfl rfl rfl rfl rfl rfl rfl) zd231_200 zxt217 rfl (by decide) (by decide) rfl ?_
                    refine zv_con hB zd231_203 rfl ?_
                    refine zv_cne hB zd231_205 rfl (fun hc49 => ?_) (fun hc49 => ?_)
                    · rw [if_neg hc49] at h
                      refine zv_con hB zd231_213 rfl ?_
                      obtain ⟨r50, hr50, h⟩ := zi_bind h
                      refine zv_cv hB (zv_emq (va2 := [.inr 0, .inl 12]) (F := [.inl e23.1, .inl f1, .inl e23.2.1, .inl r47.1, .inl r15.2.2.2.2.1, .inl e23.2.2.2.1, .inl r15.2.2.2.2.2.2.1]) (F' := [.inl r50.2.2.1, .inl f1, .inl e23.2.1, .inl r50.1, .inl r15.2.2.2.2.1, .inl r50.2.1, .inl r15.2.2.2.2.2.2.1]) (G := [g0, r15.2.2.2.2.2.2.2.1, r47.2]) (G' := [g0, r50.2.2.2.1, r50.2.2.2.2]) (ρ := [0, 2, 3]) (φ := [3, 5, 0]) (ψ := [1, 2]) [some 2, none, none, some 0, none, some 1, none] [none, some 0, some 1] zyw_M_jumps zyw_M_readsCondition zye_M_readsCondition (by decide +kernel) (zt_M_jumps hr50) ⟨⟨_, rfl, fun _ => rfl⟩, ⟨_, rfl, fun _ => rfl⟩, ⟨_, rfl, fun _ => rfl⟩, trivial⟩ ⟨rfl, rfl, trivial⟩ rfl rfl rfl rfl rfl rfl rfl) zd231_215 zxt235 rfl (by decide) (by decide) rfl ?_
                      refine zv_goto hB zd231_218 rfl ?_
                      exact ih _ _ _ _ _ _ _ _ q h hK
                    · rw [if_pos hc49] at h
                      refine zv_con hB zd231_208 rfl ?_
                      refine zv_goto hB zd231_210 rfl ?_
                      obtain ⟨r51, hr51, h⟩ := zi_bind h
                      refine zv_cv hB (zv_emq (va2 := [.inr 0, .inl 11]) (F := [.inl e23.1, .inl f1, .inl e23.2.1, .inl r47.1, .inl r15.2.2.2.2.1, .inl e23.2.2.2.1, .inl r15.2.2.2.2.2.2.1]) (F' := [.inl r51.2.2.1, .inl f1, .inl e23.2.1, .inl r51.1, .inl r15.2.2.2.2.1, .inl r51.2.1, .inl r15.2.2.2.2.2.2.1]) (G := [g0, r15.2.2.2.2.2.2.2.1, r47.2]) (G' := [g0, r51.2.2.2.1, r51.2.2.2.2]) (ρ := [0, 2, 3]) (φ := [3, 5, 0]) (ψ := [1, 2]) [some 2, none, none, some 0, none, some 1, none] [none, some 0, some 1] zyw_M_jumps zyw_M_readsCondition zye_M_readsCondition (by decide +kernel) (zt_M_jumps hr51) ⟨⟨_, rfl, fun _ => rfl⟩, ⟨_, rfl, fun _ => rfl⟩, ⟨_, rfl, fun _ => rfl⟩, trivial⟩ ⟨rfl, rfl, trivial⟩ rfl rfl rfl rfl rfl rfl rfl) zd231_215 zxt235 rfl (by decide) (by decide) rfl ?_
                      refine zv_goto hB zd231_218 rfl ?_
                      exact ih _ _ _ _ _ _ _ _ q h hK
                · rw [if_neg hc39] at h
                  have hq := Option.some.inj h
                  subst hq
                  exact hK
            · exact zi_rk (Option.some.inj h) hK
          · rw [if_pos hc16] at h
            refine zv_con hB zd231_90 rfl ?_
            have hw : (0, r15.2.2.1, r15.2.2.2.1, r15.2.1, r15.2.2.2.2.1, r15.2.2.2.2.2.1, r15.2.2.2.2.2.2.1, r15.2.2.2.2.2.2.2.1, r15.2.2.2.2.2.2.2.2) = o := zi_rk (Option.some.inj h) hK
            subst hw
            exact hret _ _ _ _ _ zd231_91 (by constructor <;> decide) ⟨rfl, rfl, rfl⟩
        · rw [if_pos hc14] at h
          refine zv_ald hB zd231_58 rfl rfl rfl ?_
          refine zv_ald hB zd231_59 rfl rfl rfl ?_
          obtain ⟨r53, hr53, h⟩ := zi_bind h
          refine zv_cv hB (zv_emq (va2 := [.inr 0]) (F := [.inl f0, .inl f1, .inl f2, .inl f3, .inl f4, .inl f5, .inl f6]) (F' := [.inl f0, .inl f1, .inl f2, .inl f3, .inl f4, .inl f5, .inl f6]) (G := [g0, g1, g2]) (G' := [g0, g1, g2]) (ρ := [0, 1]) (φ := [0, 1]) (ψ := [0]) [some 0, some 1, none, none, none, none, none] [some 0, none, none] zyw_M_here zyw_M_readsCondition zye_M_readsCondition (by decide +kernel) (zt_M_here hr53) ⟨⟨_, rfl, fun _ => rfl⟩, ⟨_, rfl, fun _ => rfl⟩, trivial⟩ ⟨rfl, trivial⟩ rfl rfl rfl rfl rfl rfl rfl) zd231_60 zxt217 rfl (by decide) (by decide) rfl ?_
          refine zv_con hB zd231_63 rfl ?_
          refine zv_cne hB zd231_65 rfl (fun hc54 => ?_) (fun hc54 => ?_)
          · rw [if_neg hc54] at h
            refine zv_con hB zd231_73 rfl ?_
            obtain ⟨r55, hr55, h⟩ := zi_bind h
            refine zv_cv hB (zv_emq (va2 := [.inr 0, .inl 13]) (F := [.inl f0, .inl f1, .inl f2, .inl f3, .inl f4, .inl f5, .inl f6]) (F' := [.inl r55.2.2.2.1, .inl f1, .inl r55.2.1, .inl r55.2.2.1, .inl r55.2.2.2.2.1, .inl f5, .inl f6]) (G := [g0, g1, g2]) (G' := [g0, r55.2.2.2.2.2, g2]) (ρ := [0, 2]) (φ := [2, 3, 0, 4]) (ψ := [1]) [some 2, none, some 0, some 1, some 3, none, none] [none, some 0, none] zyw_M_opens zyw_M_readsCondition zye_M_readsCondition (by decide +kernel) (zt_M_opens hr55) ⟨⟨_, rfl, fun _ => rfl⟩, ⟨_, rfl, fun _ => rfl⟩, ⟨_, rfl, fun _ => rfl⟩, ⟨_, rfl, fun _ => rfl⟩, trivial⟩ ⟨rfl, trivial⟩ rfl rfl rfl rfl rfl rfl rfl) zd231_75 zxt222 rfl (by decide) (by decide) rfl ?_
            refine zv_zne hB zd231_78 rfl (fun hc56 => ?_) (fun hc56 => ?_)
            · rw [if_neg hc56] at h
              exact ih _ _ _ _ _ _ _ _ q h hK
            · rw [if_pos hc56] at h
              refine zv_con hB zd231_81 rfl ?_
              have hw : (0, r55.2.2.2.1, r55.2.1, r55.2.2.1, r55.2.2.2.2.1, f5, f6, r55.2.2.2.2.2, g2) = o := zi_rk (Option.some.inj h) hK
              subst hw
              exact hret _ _ _ _ _ zd231_82 (by constructor <;> decide) ⟨rfl, rfl, rfl⟩
          · rw [if_pos hc54] at h
            refine zv_con hB zd231_68 rfl ?_
            refine zv_goto hB zd231_70 rfl ?_
            obtain ⟨r57, hr57, h⟩ := zi_bind h
            refine zv_cv hB (zv_emq (va2 := [.inr 0, .inl 10]) (F := [.inl f0, .inl f1, .inl f2, .inl f3, .inl f4, .inl f5, .inl f6]) (F' := [.inl r57.2.2.2.1, .inl f1, .inl r57.2.1, .inl r57.2.2.1, .inl r57.2.2.2.2.1, .inl f5, .inl f6]) (G := [g0, g1, g2]) (G' := [g0, r57.2.2.2.2.2, g2]) (ρ := [0, 2]) (φ := [2, 3, 0, 4]) (ψ := [1]) [some 2, none, some 0, some 1, some 3, none, none] [none, some 0, none] zyw_M_opens zyw_M_readsCondition zye_M_readsCondition (by decide +kernel) (zt_M_opens hr57) ⟨⟨_, rfl, fun _ => rfl⟩, ⟨_, rfl, fun _ => rfl⟩, ⟨_, rfl, fun _ => rfl⟩, ⟨_, rfl, fun _ => rfl⟩, trivial⟩ ⟨rfl, trivial⟩ rfl rfl rfl rfl rfl rfl rfl) zd231_75 zxt222 rfl (by decide) (by decide) rfl ?_
            refine zv_zne hB zd231_78 rfl (fun hc58 => ?_) (fun hc58 => ?_)
            · rw [if_neg hc58] at h
              exact ih _ _ _ _ _ _ _ _ q h hK
            · rw [if_pos hc58] at h
              refine zv_con hB zd231_81 rfl ?_
              have hw : (0, r57.2.2.2.1, r57.2.1, r57.2.2.1, r57.2.2.2.2.1, f5, f6, r57.2.2.2.2.2, g2) = o := zi_rk (Option.some.inj h) hK
              subst hw
              exact hret _ _ _ _ _ zd231_82 (by constructor <;> decide) ⟨rfl, rfl, rfl⟩
  unfold zf_M_readsCondition at h
  refine zv_ald hB zd231_0 rfl rfl rfl ?_
  obtain ⟨r1, hr1, h⟩ := zi_bind h
  refine zv_cv hB (zv_emq (va2 := [.inr 0]) (F := [.inl f0, .inl f1, .inl f2, .inl f3, .inl f4, .inl f5, .inl f6]) (F' := [.inl f0, .inl f1, .inl f2, .inl f3, .inl f4, .inl f5, .inl f6]) (G := [g0, g1, g2]) (G' := [g0, g1, g2]) (ρ := [0, 1]) (φ := [0, 1]) (ψ := [0]) [some 0, some 1, none, none, none, none, none] [some 0, none, none] zyw_M_here zyw_M_readsCondition zye_M_readsCondition (by decide +kernel) (zt_M_here hr1) ⟨⟨_, rfl, fun _ => rfl⟩, ⟨_, rfl, fun _ => rfl⟩, trivial⟩ ⟨rfl, trivial⟩ rfl rfl rfl rfl rfl rfl rfl) zd231_1 zxt217 rfl (by decide) (by decide) rfl ?_
  refine zv_con hB zd231_4 rfl ?_
  refine zv_ceq hB zd231_6 rfl (fun hc2 => ?_) (fun hc2 => ?_)
  · rw [if_pos hc2] at h
    refine zv_ald hB zd231_19 rfl rfl rfl ?_
    refine zv_con hB zd231_20 rfl ?_
    refine zv_putf hB zd231_21 rfl rfl (fun h => by cases h) rfl ?_
    refine zv_ald hB zd231_24 rfl rfl rfl ?_
    refine zv_con hB zd231_25 rfl ?_
    refine zv_putf hB zd231_26 rfl rfl (fun h => by cases h) rfl ?_
    refine zv_ald hB zd231_29 rfl rfl rfl ?_
    refine zv_con hB zd231_30 rfl ?_
    obtain ⟨r3, hr3, h⟩ := zi_bind h
    refine zv_cv hB (zv_emq (va2 := [.inr 0, .inl 13]) (F := [.inl f0, .inl f1, .inl 0, .inl 0, .inl f4, .inl f5, .inl f6]) (F' := [.inl r3.2.2.2.1, .inl f1, .inl r3.2.1, .inl r3.2.2.1, .inl r3.2.2.2.2.1, .inl f5, .inl f6]) (G := [g0, g1, g2]) (G' := [g0, r3.2.2.2.2.2, g2]) (ρ := [0, 2]) (φ := [2, 3, 0, 4]) (ψ := [1]) [some 2, none, some 0, some 1, some 3, none, none] [none, some 0, none] zyw_M_opens zyw_M_readsCondition zye_M_readsCondition (by decide +kernel) (zt_M_opens hr3) ⟨⟨_, rfl, fun _ => rfl⟩, ⟨_, rfl, fun _ => rfl⟩, ⟨_, rfl, fun _ => rfl⟩, ⟨_, rfl, fun _ => rfl⟩, trivial⟩ ⟨rfl, trivial⟩ rfl rfl rfl rfl rfl rfl rfl) zd231_32 zxt222 rfl (by decide) (by decide) rfl ?_
    refine zv_zne hB zd231_35 rfl (fun hc4 => ?_) (fun hc4 => ?_)
    · rw [if_neg hc4] at h
      obtain ⟨q59, hq59, h⟩ := zi_bind h
      refine l0 _ _ _ _ _ _ _ _ _ q59 hq59 ?_
      rcases q59 with e60 | w63
      · replace h := zi_sl h
        show good 170 [.inr 0] [] [.inl e60.1, .inl f1, .inl e60.2.1, .inl e60.2.2.1, .inl e60.2.2.2.1, .inl e60.2.2.2.2.1, .inl e60.2.2.2.2.2.1] [g0, e60.2.2.2.2.2.2.1, e60.2.2.2.2.2.2.2]
        refine zv_ald hB zd231_170 rfl rfl rfl ?_
        refine zv_con hB zd231_171 rfl ?_
        refine zv_ald hB zd231_172 rfl rfl rfl ?_
        refine zv_getf hB zd231_173 rfl rfl (fun _ _ => ?_)
        obtain ⟨r61, hr61, h⟩ := zi_bind h
        refine zv_cv hB (zv_emq (va2 := [.inr 0, .inl 1, .inl e60.1]) (F := [.inl e60.1, .inl f1, .inl e60.2.1, .inl e60.2.2.1, .inl e60.2.2.2.1, .inl e60.2.2.2.2.1, .inl e60.2.2.2.2.2.1]) (F' := [.inl e60.1, .inl f1, .inl e60.2.1, .inl e60.2.2.1, .inl r61.2, .inl e60.2.2.2.2.1, .inl e60.2.2.2.2.2.1]) (G := [g0, e60.2.2.2.2.2.2.1, e60.2.2.2.2.2.2.2]) (G' := [g0, e60.2.2.2.2.2.2.1, e60.2.2.2.2.2.2.2]) (ρ := [0]) (φ := [4]) (ψ := []) [none, none, none, none, some 0, none, none] [none, none, none] zyw_M_wrongAt zyw_M_readsCondition zye_M_readsCondition (by decide +kernel) (zt_M_wrongAt hr61) ⟨⟨_, rfl, fun _ => rfl⟩, trivial⟩ trivial rfl rfl rfl rfl rfl rfl rfl) zd231_176 zxt219 rfl (by decide) (by decide) rfl ?_
        obtain ⟨c62, h⟩ := zi_if h
        have hw := Option.some.inj h
        subst hw
        exact hret _ _ _ _ _ zd231_179 (zi_bo_ok c62) ⟨rfl, rfl, rfl⟩
      · exact Option.some.inj h
    · rw [if_pos hc4] at h
      refine zv_con hB zd231_38 rfl ?_
      have hw := Option.some.inj h
      subst hw
      exact hret _ _ _ _ _ zd231_39 (by constructor <;> decide) ⟨rfl, rfl, rfl⟩
  · rw [if_neg hc2] at h
    refine zv_ald hB zd231_9 rfl rfl rfl ?_
    refine zv_con hB zd231_10 rfl ?_
    refine zv_ald hB zd231_11 rfl rfl rfl ?_
    refine zv_getf hB zd231_12 rfl rfl (fun _ _ => ?_)
    obtain ⟨r64, hr64, h⟩ := zi_bind h
    refine zv_cv hB (zv_emq (va2 := [.inr 0, .inl 1, .inl f0]) (F := [.inl f0, .inl f1, .inl f2, .inl f3, .inl f4, .inl f5, .inl f6]) (F' := [.inl f0, .inl f1, .inl f2, .inl f3, .inl r64.2, .inl f5, .inl f6]) (G := [g0, g1, g2]) (G' := [g0, g1, g2]) (ρ := [0]) (φ := [4]) (ψ := []) [none, none, none, none, some 0, none, none] [none, none, none] zyw_M_wrongAt zyw_M_readsCondition zye_M_readsCondition (by decide +kernel) (zt_M_wrongAt hr64) ⟨⟨_, rfl, fun _ => rfl⟩, trivial⟩ trivial rfl rfl rfl rfl rfl rfl rfl) zd231_15 zxt219 rfl (by decide) (by decide) rfl ?_
    obtain ⟨c65, h⟩ := zi_if h
    have hw := Option.some.inj h
    subst hw
    exact hret _ _ _ _ _ zd231_18 (zi_bo_ok c65) ⟨rfl, rfl, rfl⟩
end
section
/-! Methods as functions, and that they do what these do. -/
/-! M_readsClause ()Z -/
-- names: 0 StarTalesModel('arg', 0), 1 (1, 220)(0, 12, 3), 2 (0, 14)(0, 12, 16), 3 (0, 14)(0, 12, 17), 4 (0, 14)(0, 12, 18), 5 (0, 220)(0, 12, 15), 6 (0, 220)(0, 12, 14), 7 (0, 14)(0, 12, 19)
-- fields: f0 = 0.place0_, f1 = 0.length0_, f2 = 0.saidMany_, f3 = 0.codeMany_, f4 = 0.open_, f5 = 0.waiting_, f6 = 0.fault_, f7 = 0.number0_; arrays: g0 = 1, g1 = 2, g2 = 3, g3 = 4, g4 = 5, g5 = 6, g6 = 7; out: [('ret', None), ('f', 0), ('f', 2), ('f', 3), ('f', 4), ('f', 5), ('f', 6), ('f', 7), ('g', 1), ('g', 2), ('g', 3), ('g', 4), ('g', 5), ('g', 6)]
abbrev zy_M_readsClause : zNL := (8, [(0, 12)], [(0, 12, 5, 0), (0, 12, 6, 1), (0, 12, 11, 2), (0, 12, 9, 3), (0, 12, 8, 4), (0, 12, 10, 5), (0, 12, 7, 6), (0, 12, 12, 7)], [(0, 12, 3, 1), (0, 12, 16, 2), (0, 12, 17, 3), (0, 12, 18, 4), (0, 12, 15, 5), (0, 12, 14, 6), (0, 12, 19, 7)], [(1, 1, 220, 0), (2, 0, 14, 1), (3, 0, 14, 2), (4, 0, 14, 3), (5, 0, 220, 4), (6, 0, 220, 5), (7, 0, 14, 6)])
theorem zyw_M_readsClause : zv_wf zy_M_readsClause = true := by decide +kernel
theorem zye_M_readsClause : zv_ek2 zy_M_readsClause = true := by decide +kernel
def zf_M_readsClause (f0 : Int) (f1 : Int) (f2 : Int) (f3 : Int) (f4 : Int) (f5 : Int) (f6 : Int) (f7 : Int) (g0 : (Int → Int)) (g1 : (Int → Int)) (g2 : (Int → Int)) (g3 : (Int → Int)) (g4 : (Int → Int)) (g5 : (Int → Int)) (g6 : (Int → Int)) : Option (Int × Int × Int × Int × Int × Int × Int × Int × (Int → Int) × (Int → Int) × (Int → Int) × (Int → Int) × (Int → Int) × (Int → Int)) := (zf_M_here f0 f1 g0).bind fun r1 => ((zf_M_isClause r1).bind fun r2 => (if r2 = 0 then ((zf_M_wrongAt 1 f0 f6).bind fun r18 => (cond (zi_bo r18.1) (some (r18.1, f0, f2, f3, f4, f5, r18.2, f7, g1, g2, g3, g4, g5, g6)) none)) else (if f2 = 14 then ((zf_M_wrongAt 4 f0 f6).bind fun r16 => (cond (zi_bo r16.1) (some (r16.1, f0, f2, f3, f4, f5, r16.2, f7, g1, g2, g3, g4, g5, g6)) none)) else (cond (zi_ix f2 14) (if r1 = 118 then ((zf_M_readsCondition (zi_w (f0 + 1)) f1 0 0 f6 f3 f7 g0 g4 g5).bind fun r7 => (if r7.1 = 0 then (some (0, r7.2.1, f2, r7.2.2.2.2.2.1, r7.2.2.1, r7.2.2.2.1, r7.2.2.2.2.1, r7.2.2.2.2.2.2.1, (zv_up g1 f2 r1), (zv_up g2 f2 f3), (zv_up g3 f2 f3), r7.2.2.2.2.2.2.2.1, r7.2.2.2.2.2.2.2.2, g6)) else (some (1, r7.2.1, (zi_w (f2 + 1)), r7.2.2.2.2.2.1, r7.2.2.1, r7.2.2.2.1, r7.2.2.2.2.1, r7.2.2.2.2.2.2.1, (zv_up g1 f2 r1), (zv_up g2 f2 f3), (zv_up g3 f2 f3), r7.2.2.2.2.2.2.2.1, r7.2.2.2.2.2.2.2.2, (zv_up g6 f2 r7.2.2.2.2.2.1))))) else (if r1 = 106 then ((zf_M_readsCondition (zi_w (f0 + 1)) f1 0 0 f6 f3 f7 g0 g4 g5).bind fun r10 => (if r10.1 = 0 then (some (0, r10.2.1, f2, r10.2.2.2.2.2.1, r10.2.2.1, r10.2.2.2.1, r10.2.2.2.2.1, r10.2.2.2.2.2.2.1, (zv_up g1 f2 r1), (zv_up g2 f2 f3), (zv_up g3 f2 f3), r10.2.2.2.2.2.2.2.1, r10.2.2.2.2.2.2.2.2, g6)) else (some (1, r10.2.1, (zi_w (f2 + 1)), r10.2.2.2.2.2.1, r10.2.2.1, r10.2.2.2.1, r10.2.2.2.2.1, r10.2.2.2.2.2.2.1, (zv_up g1 f2 r1), (zv_up g2 f2 f3), (zv_up g3 f2 f3), r10.2.2.2.2.2.2.2.1, r10.2.2.2.2.2.2.2.2, (zv_up g6 f2 r10.2.2.2.2.2.1))))) else ((zf_M_readsSum 0 (zi_w (f0 + 1)) f1 0 f6 f3 f7 g0 g4 g5).bind fun r12 => (if r12.1 = 0 then (some (0, r12.2.2.1, f2, r12.2.2.2.2.2.1, r12.2.2.2.1, r12.2.1, r12.2.2.2.2.1, r12.2.2.2.2.2.2.1, (zv_up g1 f2 r1), (zv_up g2 f2 f3), g3, r12.2.2.2.2.2.2.2.1, r12.2.2.2.2.2.2.2.2, g6)) else ((zf_M_readsCondition r12.2.2.1 f1 r12.2.2.2.1 r12.2.1 r12.2.2.2.2.1 r12.2.2.2.2.2.1 r12.2.2.2.2.2.2.1 g0 r12.2.2.2.2.2.2.2.1 r12.2.2.2.2.2.2.2.2).bind fun r14 => (if r14.1 = 0 then (some (0, r14.2.1, f2, r14.2.2.2.2.2.1, r14.2.2.1, r14.2.2.2.1, r14.2.2.2.2.1, r14.2.2.2.2.2.2.1, (zv_up g1 f2 r1), (zv_up g2 f2 f3), (zv_up g3 f2 r12.2.2.2.2.2.1), r14.2.2.2.2.2.2.2.1, r14.2.2.2.2.2.2.2.2, g6)) else (some (1, r14.2.1, (zi_w (f2 + 1)), r14.2.2.2.2.2.1, r14.2.2.1, r14.2.2.2.1, r14.2.2.2.2.1, r14.2.2.2.2.2.2.1, (zv_up g1 f2 r1), (zv_up g2 f2 f3), (zv_up g3 f2 r12.2.2.2.2.2.1), r14.2.2.2.2.2.2.2.1, r14.2.2.2.2.2.2.2.2, (zv_up g6 f2 r14.2.2.2.2.2.1))))))))) none))))
theorem zd216_0 : decode zxm216.2.1 0 = .ok (.aload_n 0, 1) := by decide +kernel
theorem zd216_1 : decode zxm216.2.1 1 = .ok (.invokevirtual 182, 3) := by decide +kernel
theorem zd216_4 : decode zxm216.2.1 4 = .ok (.istore_n 1, 1) := by decide +kernel
theorem zd216_5 : decode zxm216.2.1 5 = .ok (.iload_n 1, 1) := by decide +kernel
theorem zd216_6 : decode zxm216.2.1 6 = .ok (.invokestatic 253, 3) := by decide +kernel
theorem zd216_9 : decode zxm216.2.1 9 = .ok (.ifCond .ne 13, 3) := by decide +kernel
theorem zd216_12 : decode zxm216.2.1 12 = .ok (.aload_n 0, 1) := by decide +kernel
theorem zd216_13 : decode zxm216.2.1 13 = .ok (.iconst 1, 1) := by decide +kernel
theorem zd216_14 : decode zxm216.2.1 14 = .ok (.aload_n 0, 1) := by decide +kernel
theorem zd216_15 : decode zxm216.2.1 15 = .ok (.getfield 176, 3) := by decide +kernel
theorem zd216_18 : decode zxm216.2.1 18 = .ok (.invokevirtual 189, 3) := by decide +kernel
theorem zd216_21 : decode zxm216.2.1 21 = .ok (.ireturn, 1) := by decide +kernel
theorem zd216_22 : decode zxm216.2.1 22 = .ok (.aload_n 0, 1) := by decide +kernel
theorem zd216_23 : decode zxm216.2.1 23 = .ok (.getfield 256, 3) := by decide +kernel
theorem zd216_26 : decode zxm216.2.1 26 = .ok (.bipush 14, 2) := by decide +kernel
theorem zd216_28 : decode zxm216.2.1 28 = .ok (.if_icmp .ne 13, 3) := by decide +kernel
theorem zd216_31 : decode zxm216.2.1 31 = .ok (.aload_n 0, 1) := by decide +kernel
theorem zd216_32 : decode zxm216.2.1 32 = .ok (.iconst 4, 1) := by decide +kernel
theorem zd216_33 : decode zxm216.2.1 33 = .ok (.aload_n 0, 1) := by decide +kernel
theorem zd216_34 : decode zxm216.2.1 34 = .ok (.getfield 176, 3) := by decide +kernel
theorem zd216_37 : decode zxm216.2.1 37 = .ok (.invokevirtual 189, 3) := by decide +kernel
theorem zd216_40 : decode zxm216.2.1 40 = .ok (.ireturn, 1) := by decide +kernel
theorem zd216_41 : decode zxm216.2.1 41 = .ok (.aload_n 0, 1) := by decide +kernel
theorem zd216_42 : decode zxm216.2.1 42 = .ok (.getfield 29, 3) := by decide +kernel
theorem zd216_45 : decode zxm216.2.1 45 = .ok (.aload_n 0, 1) := by decide +kernel
theorem zd216_46 : decode zxm216.2.1 46 = .ok (.getfield 256, 3) := by decide +kernel
theorem zd216_49 : decode zxm216.2.1 49 = .ok (.iload_n 1, 1) := by decide +kernel
theorem zd216_50 : decode zxm216.2.1 50 = .ok (.iastore, 1) := by decide +kernel
theorem zd216_51 : decode zxm216.2.1 51 = .ok (.aload_n 0, 1) := by decide +kernel
theorem zd216_52 : decode zxm216.2.1 52 = .ok (.aload_n 0, 1) := by decide +kernel
theorem zd216_53 : decode zxm216.2.1 53 = .ok (.getfield 176, 3) := by decide +kernel
theorem zd216_56 : decode zxm216.2.1 56 = .ok (.iconst 1, 1) := by decide +kernel
theorem zd216_57 : decode zxm216.2.1 57 = .ok (.iadd, 1) := by decide +kernel
theorem zd216_58 : decode zxm216.2.1 58 = .ok (.putfield 176, 3) := by decide +kernel
theorem zd216_61 : decode zxm216.2.1 61 = .ok (.aload_n 0, 1) := by decide +kernel
theorem zd216_62 : decode zxm216.2.1 62 = .ok (.getfield 32, 3) := by decide +kernel
theorem zd216_65 : decode zxm216.2.1 65 = .ok (.aload_n 0, 1) := by decide +kernel
theorem zd216_66 : decode zxm216.2.1 66 = .ok (.getfield 256, 3) := by decide +kernel
theorem zd216_69 : decode zxm216.2.1 69 = .ok (.aload_n 0, 1) := by decide +kernel
theorem zd216_70 : decode zxm216.2.1 70 = .ok (.getfield 199, 3) := by decide +kernel
theorem zd216_73 : decode zxm216.2.1 73 = .ok (.iastore, 1) := by decide +kernel
theorem zd216_74 : decode zxm216.2.1 74 = .ok (.aload_n 0, 1) := by decide +kernel
theorem zd216_75 : decode zxm216.2.1 75 = .ok (.iconst 0, 1) := by decide +kernel
theorem zd216_76 : decode zxm216.2.1 76 = .ok (.putfield 203, 3) := by decide +kernel
theorem zd216_79 : decode zxm216.2.1 79 = .ok (.aload_n 0, 1) := by decide +kernel
theorem zd216_80 : decode zxm216.2.1 80 = .ok (.iconst 0, 1) := by decide +kernel
theorem zd216_81 : decode zxm216.2.1 81 = .ok (.putfield 206, 3) := by decide +kernel
theorem zd216_84 : decode zxm216.2.1 84 = .ok (.iload_n 1, 1) := by decide +kernel
theorem zd216_85 : decode zxm216.2.1 85 = .ok (.bipush 118, 2) := by decide +kernel
theorem zd216_87 : decode zxm216.2.1 87 = .ok (.if_icmp .eq 18, 3) := by decide +kernel
theorem zd216_90 : decode zxm216.2.1 90 = .ok (.iload_n 1, 1) := by decide +kernel
theorem zd216_91 : decode zxm216.2.1 91 = .ok (.bipush 106, 2) := by decide +kernel
theorem zd216_93 : decode zxm216.2.1 93 = .ok (.if_icmp .eq 12, 3) := by decide +kernel
theorem zd216_96 : decode zxm216.2.1 96 = .ok (.aload_n 0, 1) := by decide +kernel
theorem zd216_97 : decode zxm216.2.1 97 = .ok (.invokevirtual 238, 3) := by decide +kernel
theorem zd216_100 : decode zxm216.2.1 100 = .ok (.ifCond .ne 5, 3) := by decide +kernel
theorem zd216_103 : decode zxm216.2.1 103 = .ok (.iconst 0, 1) := by decide +kernel
theorem zd216_104 : decode zxm216.2.1 104 = .ok (.ireturn, 1) := by decide +kernel
theorem zd216_105 : decode zxm216.2.1 105 = .ok (.aload_n 0, 1) := by decide +kernel
theorem zd216_106 : decode zxm216.2.1 106 = .ok (.getfield 35, 3) := by decide +kernel
theorem zd216_109 : decode zxm216.2.1 109 = .ok (.aload_n 0, 1) := by decide +kernel
theorem zd216_110 : decode zxm216.2.1 110 = .ok (.getfield 256, 3) := by decide +kernel
theorem zd216_113 : decode zxm216.2.1 113 = .ok (.aload_n 0, 1) := by decide +kernel
theorem zd216_114 : decode zxm216.2.1 114 = .ok (.getfield 199, 3) := by decide +kernel
theorem zd216_117 : decode zxm216.2.1 117 = .ok (.iastore, 1) := by decide +kernel
theorem zd216_118 : decode zxm216.2.1 118 = .ok (.aload_n 0, 1) := by decide +kernel
theorem zd216_119 : decode zxm216.2.1 119 = .ok (.invokevirtual 259, 3) := by decide +kernel
theorem zd216_122 : decode zxm216.2.1 122 = .ok (.ifCond .ne 5, 3) := by decide +kernel
theorem zd216_125 : decode zxm216.2.1 125 = .ok (.iconst 0, 1) := by decide +kernel
theorem zd216_126 : decode zxm216.2.1 126 = .ok (.ireturn, 1) := by decide +kernel
theorem zd216_127 : decode zxm216.2.1 127 = .ok (.aload_n 0, 1) := by decide +kernel
theorem zd216_128 : decode zxm216.2.1 128 = .ok (.getfield 38, 3) := by decide +kernel
theorem zd216_131 : decode zxm216.2.1 131 = .ok (.aload_n 0, 1) := by decide +kernel
theorem zd216_132 : decode zxm216.2.1 132 = .ok (.getfield 256, 3) := by decide +kernel
theorem zd216_135 : decode zxm216.2.1 135 = .ok (.aload_n 0, 1) := by decide +kernel
theorem zd216_136 : decode zxm216.2.1 136 = .ok (.getfield 199, 3) := by decide +kernel
theorem zd216_139 : decode zxm216.2.1 139 = .ok (.iastore, 1) := by decide +kernel
theorem zd216_140 : decode zxm216.2.1 140 = .ok (.aload_n 0, 1) := by decide +kernel
theorem zd216_141 : decode zxm216.2.1 141 = .ok (.aload_n 0, 1) := by decide +kernel
theorem zd216_142 : decode zxm216.2.1 142 = .ok (.getfield 256, 3) := by decide +kernel
theorem zd216_145 : decode zxm216.2.1 145 = .ok (.iconst 1, 1) := by decide +kernel
theorem zd216_146 : decode zxm216.2.1 146 = .ok (.iadd, 1) := by decide +kernel
theorem zd216_147 : decode zxm216.2.1 147 = .ok (.putfield 256, 3) := by decide +kernel
theorem zd216_150 : decode zxm216.2.1 150 = .ok (.iconst 1, 1) := by decide +kernel
theorem zd216_151 : decode zxm216.2.1 151 = .ok (.ireturn, 1) := by decide +kernel
theorem zt_M_readsClause {f0 : Int} {f1 : Int} {f2 : Int} {f3 : Int} {f4 : Int} {f5 : Int} {f6 : Int} {f7 : Int} {g0 : (Int → Int)} {g1 : (Int → Int)} {g2 : (Int → Int)} {g3 : (Int → Int)} {g4 : (Int → Int)} {g5 : (Int → Int)} {g6 : (Int → Int)} {o : Int × Int × Int × Int × Int × Int × Int × Int × (Int → Int) × (Int → Int) × (Int → Int) × (Int → Int) × (Int → Int) × (Int → Int)} (h : zf_M_readsClause f0 f1 f2 f3 f4 f5 f6 f7 g0 g1 g2 g3 g4 g5 g6 = some o) : zv_Fn z_TB z_cl z_KX zy_M_readsClause zxm216 (7, 420) [.inr 0] [.inl f0, .inl f1, .inl f2, .inl f3, .inl f4, .inl f5, .inl f6, .inl f7] [g0, g1, g2, g3, g4, g5, g6] (some o.1) [.inl o.2.1, .inl f1, .inl o.2.2.1, .inl o.2.2.2.1, .inl o.2.2.2.2.1, .inl o.2.2.2.2.2.1, .inl o.2.2.2.2.2.2.1, .inl o.2.2.2.2.2.2.2.1] [g0, o.2.2.2.2.2.2.2.2.1, o.2.2.2.2.2.2.2.2.2.1, o.2.2.2.2.2.2.2.2.2.2.1, o.2.2.2.2.2.2.2.2.2.2.2.1, o.2.2.2.2.2.2.2.2.2.2.2.2.1, o.2.2.2.2.2.2.2.2.2.2.2.2.2] := zv_meth (K := (z_KF13, z_KC13, z_KL13, z_KT13, [], [], [], none)) (FT := z_FT) (MT := z_MT) (n := 1) zxp216 (z_ks13 _ (fun _ h => List.mem_cons_of_mem _ h) _ _ _ _ (fun j r h _ => by cases h)) (fun _ _ => zs_KX_p) zyw_M_readsClause (fun va F G h => by obtain ⟨rfl, _⟩ := h; rfl) (fun va F G h => by obtain ⟨rfl, _⟩ := h; rfl) rfl fun good va F G hB hret hvret hP => by
  obtain ⟨rfl, rfl, rfl⟩ := hP
  unfold zf_M_readsClause at h
  refine zv_ald hB zd216_0 rfl rfl rfl ?_
  obtain ⟨r1, hr1, h⟩ := zi_bind h
  refine zv_cv hB (zv_emq (va2 := [.inr 0]) (F := [.inl f0, .inl f1, .inl f2, .inl f3, .inl f4, .inl f5, .inl f6, .inl f7]) (F' := [.inl f0, .inl f1, .inl f2, .inl f3, .inl f4, .inl f5, .inl f6, .inl f7]) (G := [g0, g1, g2, g3, g4, g5, g6]) (G' := [g0, g1, g2, g3, g4, g5, g6]) (ρ := [0, 1]) (φ := [0, 1]) (ψ := [0]) [some 0, some 1, none, none, none, none, none, none] [some 0, none, none, none, none, none, none] zyw_M_here zyw_M_readsClause zye_M_readsClause (by decide +kernel) (zt_M_here hr1) ⟨⟨_, rfl, fun _ => rfl⟩, ⟨_, rfl, fun _ => rfl⟩, trivial⟩ ⟨rfl, trivial⟩ rfl rfl rfl rfl rfl rfl rfl) zd216_1 zxt217 rfl (by decide) (by decide) rfl ?_
  refine zv_ist hB zd216_4 rfl rfl rfl ?_
  refine zv_ild hB zd216_5 rfl rfl ?_
  obtain ⟨r2, hr2, h⟩ := zi_bind h
  refine zv_cs hB (zv_emq (va2 := [.inl r1]) (F := [.inl f0, .inl f1, .inl f2, .inl f3, .inl f4, .inl f5, .inl f6, .inl f7]) (F' := [.inl f0, .inl f1, .inl f2, .inl f3, .inl f4, .inl f5, .inl f6, .inl f7]) (G := [g0, g1, g2, g3, g4, g5, g6]) (G' := [g0, g1, g2, g3, g4, g5, g6]) (ρ := []) (φ := []) (ψ := []) [none, none, none, none, none, none, none, none] [none, none, none, none, none, none, none] zyw_M_isClause zyw_M_readsClause zye_M_readsClause (by decide +kernel) (zt_M_isClause hr2) trivial trivial rfl rfl rfl rfl rfl rfl rfl) zd216_6 zxt218 rfl (by decide) (by decide) rfl ?_
  refine zv_zne hB zd216_9 rfl (fun hc3 => ?_) (fun hc3 => ?_)
  · rw [if_neg hc3] at h
    refine zv_ald hB zd216_22 rfl rfl rfl ?_
    refine zv_getf hB zd216_23 rfl rfl (fun _ _ => ?_)
    refine zv_con hB zd216_26 rfl ?_
    refine zv_cne hB zd216_28 rfl (fun hc4 => ?_) (fun hc4 => ?_)
    · rw [if_neg hc4] at h
      refine zv_ald hB zd216_41 rfl rfl rfl ?_
      refine zv_getr hB zd216_42 rfl ?_
      refine zv_ald hB zd216_45 rfl rfl rfl ?_
      refine zv_getf hB zd216_46 rfl rfl (fun _ _ => ?_)
      refine zv_ild hB zd216_49 rfl rfl ?_
      obtain ⟨c5, h⟩ := zi_if h
      refine zv_iast hB zd216_50 rfl rfl (zi_ix_ok c5).1 (zi_ix_ok c5).2 ?_
      refine zv_ald hB zd216_51 rfl rfl rfl ?_
      refine zv_ald hB zd216_52 rfl rfl rfl ?_
      refine zv_getf hB zd216_53 rfl rfl (fun _ _ => ?_)
      refine zv_con hB zd216_56 rfl ?_
      refine zv_addw hB zd216_57 ?_
      refine zv_putf hB zd216_58 rfl rfl (fun h => by cases h) rfl ?_
      refine zv_ald hB zd216_61 rfl rfl rfl ?_
      refine zv_getr hB zd216_62 rfl ?_
      refine zv_ald hB zd216_65 rfl rfl rfl ?_
      refine zv_getf hB zd216_66 rfl rfl (fun _ _ => ?_)
      refine zv_ald hB zd216_69 rfl rfl rfl ?_
      refine zv_getf hB zd216_70 rfl rfl (fun _ _ => ?_)
      refine zv_iast hB zd216_73 rfl rfl (zi_ix_ok c5).1 (zi_ix_ok c5).2 ?_
      refine zv_ald hB zd216_74 rfl rfl rfl ?_
      refine zv_con hB zd216_75 rfl ?_
      refine zv_putf hB zd216_76 rfl rfl (fun h => by cases h) rfl ?_
      refine zv_ald hB zd216_79 rfl rfl rfl ?_
      refine zv_con hB zd216_80 rfl ?_
      refine zv_putf hB zd216_81 rfl rfl (fun h => by cases h) rfl ?_
      refine zv_ild hB zd216_84 rfl rfl ?_
      refine zv_con hB zd216_85 rfl ?_
      refine zv_ceq hB zd216_87 rfl (fun hc6 => ?_) (fun hc6 => ?_)
      · rw [if_pos hc6] at h
        refine zv_ald hB zd216_105 rfl rfl rfl ?_
        refine zv_getr hB zd216_106 rfl ?_
        refine zv_ald hB zd216_109 rfl rfl rfl ?_
        refine zv_getf hB zd216_110 rfl rfl (fun _ _ => ?_)
        refine zv_ald hB zd216_113 rfl rfl rfl ?_
        refine zv_getf hB zd216_114 rfl rfl (fun _ _ => ?_)
        refine zv_iast hB zd216_117 rfl rfl (zi_ix_ok c5).1 (zi_ix_ok c5).2 ?_
        refine zv_ald hB zd216_118 rfl rfl rfl ?_
        obtain ⟨r7, hr7, h⟩ := zi_bind h
        refine zv_cv hB (zv_emq (va2 := [.inr 0]) (F := [.inl (zi_w (f0 + 1)), .inl f1, .inl f2, .inl f3, .inl 0, .inl 0, .inl f6, .inl f7]) (F' := [.inl r7.2.1, .inl f1, .inl f2, .inl r7.2.2.2.2.2.1, .inl r7.2.2.1, .inl r7.2.2.2.1, .inl r7.2.2.2.2.1, .inl r7.2.2.2.2.2.2.1]) (G := [g0, (zv_up g1 f2 r1), (zv_up g2 f2 f3), (zv_up g3 f2 f3), g4, g5, g6]) (G' := [g0, (zv_up g1 f2 r1), (zv_up g2 f2 f3), (zv_up g3 f2 f3), r7.2.2.2.2.2.2.2.1, r7.2.2.2.2.2.2.2.2, g6]) (ρ := [0, 1, 5, 6]) (φ := [0, 1, 4, 5, 6, 3, 7]) (ψ := [0, 4, 5]) [some 0, some 1, none, some 5, some 2, some 3, some 4, some 6] [some 0, none, none, none, some 1, some 2, none] zyw_M_readsCondition zyw_M_readsClause zye_M_readsClause (by decide +kernel) (zt_M_readsCondition hr7) ⟨⟨_, rfl, fun _ => rfl⟩, ⟨_, rfl, fun _ => rfl⟩, ⟨_, rfl, fun _ => rfl⟩, ⟨_, rfl, fun _ => rfl⟩, ⟨_, rfl, fun _ => rfl⟩, ⟨_, rfl, fun _ => rfl⟩, ⟨_, rfl, fun _ => rfl⟩, trivial⟩ ⟨rfl, rfl, rfl, trivial⟩ rfl rfl rfl rfl rfl rfl rfl) zd216_119 zxt231 rfl (by decide) (by decide) rfl ?_
        refine zv_zne hB zd216_122 rfl (fun hc8 => ?_) (fun hc8 => ?_)
        · rw [if_neg hc8] at h
          refine zv_ald hB zd216_127 rfl rfl rfl ?_
          refine zv_getr hB zd216_128 rfl ?_
          refine zv_ald hB zd216_131 rfl rfl rfl ?_
          refine zv_getf hB zd216_132 rfl rfl (fun _ _ => ?_)
          refine zv_ald hB zd216_135 rfl rfl rfl ?_
          refine zv_getf hB zd216_136 rfl rfl (fun _ _ => ?_)
          refine zv_iast hB zd216_139 rfl rfl (zi_ix_ok c5).1 (zi_ix_ok c5).2 ?_
          refine zv_ald hB zd216_140 rfl rfl rfl ?_
          refine zv_ald hB zd216_141 rfl rfl rfl ?_
          refine zv_getf hB zd216_142 rfl rfl (fun _ _ => ?_)
          refine zv_con hB zd216_145 rfl ?_
          refine zv_addw hB zd216_146 ?_
          refine zv_putf hB zd216_147 rfl rfl (fun h => by cases h) rfl ?_
          refine zv_con hB zd216_150 rfl ?_
          have hw := Option.some.inj h
          subst hw
          exact hret _ _ _ _ _ zd216_151 (by constructor <;> decide) ⟨rfl, rfl, rfl⟩
        · rw [if_pos hc8] at h
          refine zv_con hB zd216_125 rfl ?_
          have hw := Option.some.inj h
          subst hw
          exact hret _ _ _ _ _ zd216_126 (by constructor <;> decide) ⟨rfl, rfl, rfl⟩
      · rw [if_neg hc6] at h
        refine zv_ild hB zd216_90 rfl rfl ?_
        refine zv_con hB zd216_91 rfl ?_
        refine zv_ceq hB zd216_93 rfl (fun hc9 => ?_) (fun hc9 => ?_)
        · rw [if_pos hc9] at h
          refine zv_ald hB zd216_105 rfl rfl rfl ?_
          refine zv_getr hB zd216_106 rfl ?_
          refine zv_ald hB zd216_109 rfl rfl rfl ?_
          refine zv_getf hB zd216_110 rfl rfl (fun _ _ => ?_)
          refine zv_ald hB zd216_113 rfl rfl rfl ?_
          refine zv_getf hB zd216_114 rfl rfl (fun _ _ => ?_)
          refine zv_iast hB zd216_117 rfl rfl (zi_ix_ok c5).1 (zi_ix_ok c5).2 ?_
          refine zv_ald hB zd216_118 rfl rfl rfl ?_
          obtain ⟨r10, hr10, h⟩ := zi_bind h
          refine zv_cv hB (zv_emq (va2 := [.inr 0]) (F := [.inl (zi_w (f0 + 1)), .inl f1, .inl f2, .inl f3, .inl 0, .inl 0, .inl f6, .inl f7]) (F' := [.inl r10.2.1, .inl f1, .inl f2, .inl r10.2.2.2.2.2.1, .inl r10.2.2.1, .inl r10.2.2.2.1, .inl r10.2.2.2.2.1, .inl r10.2.2.2.2.2.2.1]) (G := [g0, (zv_up g1 f2 r1), (zv_up g2 f2 f3), (zv_up g3 f2 f3), g4, g5, g6]) (G' := [g0, (zv_up g1 f2 r1), (zv_up g2 f2 f3), (zv_up g3 f2 f3), r10.2.2.2.2.2.2.2.1, r10.2.2.2.2.2.2.2.2, g6]) (ρ := [0, 1, 5, 6]) (φ := [0, 1, 4, 5, 6, 3, 7]) (ψ := [0, 4, 5]) [some 0, some 1, none, some 5, some 2, some 3, some 4, some 6] [some 0, none, none, none, some 1, some 2, none] zyw_M_readsCondition zyw_M_readsClause zye_M_readsClause (by decide +kernel) (zt_M_readsCondition hr10) ⟨⟨_, rfl, fun _ => rfl⟩, ⟨_, rfl, fun _ => rfl⟩, ⟨_, rfl, fun _ => rfl⟩, ⟨_, rfl, fun _ => rfl⟩, ⟨_, rfl, fun _ => rfl⟩, ⟨_, rfl, fun _ => rfl⟩, ⟨_, rfl, fun _ => rfl⟩, trivial⟩ ⟨rfl, rfl, rfl, trivial⟩ rfl rfl rfl rfl rfl rfl rfl) zd216_119 zxt231 rfl (by decide) (by decide) rfl ?_
          refine zv_zne hB zd216_122 rfl (fun hc11 => ?_) (fun hc11 => ?_)
          · rw [if_neg hc11] at h
            refine zv_ald hB zd216_127 rfl rfl rfl ?_
            refine zv_getr hB zd216_128 rfl ?_
            refine zv_ald hB zd216_131 rfl rfl rfl ?_
            refine zv_getf hB zd216_132 rfl rfl (fun _ _ => ?_)
            refine zv_ald hB zd216_135 rfl rfl rfl ?_
            refine zv_getf hB zd216_136 rfl rfl (fun _ _ => ?_)
            refine zv_iast hB zd216_139 rfl rfl (zi_ix_ok c5).1 (zi_ix_ok c5).2 ?_
            refine zv_ald hB zd216_140 rfl rfl rfl ?_
            refine zv_ald hB zd216_141 rfl rfl rfl ?_
            refine zv_getf hB zd216_142 rfl rfl (fun _ _ => ?_)
            refine zv_con hB zd216_145 rfl ?_
            refine zv_addw hB zd216_146 ?_
            refine zv_putf hB zd216_147 rfl rfl (fun h => by cases h) rfl ?_
            refine zv_con hB zd216_150 rfl ?_
            have hw := Option.some.inj h
            subst hw
            exact hret _ _ _ _ _ zd216_151 (by constructor <;> decide) ⟨rfl, rfl, rfl⟩
          · rw [if_pos hc11] at h
            refine zv_con hB zd216_125 rfl ?_
            have hw := Option.some.inj h
            subst hw
            exact hret _ _ _ _ _ zd216_126 (by constructor <;> decide) ⟨rfl, rfl, rfl⟩
        · rw [if_neg hc9] at h
          refine zv_ald hB zd216_96 rfl rfl rfl ?_
          obtain ⟨r12, hr12, h⟩ := zi_bind h
          refine zv_cv hB (zv_emq (va2 := [.inr 0]) (F := [.inl (zi_w (f0 + 1)), .inl f1, .inl f2, .inl f3, .inl 0, .inl 0, .inl f6, .inl f7]) (F' := [.inl r12.2.2.1, .inl f1, .inl f2, .inl r12.2.2.2.2.2.1, .inl r12.2.2.2.1, .inl r12.2.1, .inl r12.2.2.2.2.1, .inl r12.2.2.2.2.2.2.1]) (G := [g0, (zv_up g1 f2 r1), (zv_up g2 f2 f3), g3, g4, g5, g6]) (G' := [g0, (zv_up g1 f2 r1), (zv_up g2 f2 f3), g3, r12.2.2.2.2.2.2.2.1, r12.2.2.2.2.2.2.2.2, g6]) (ρ := [0, 1, 5, 6]) (φ := [5, 0, 1, 4, 6, 3, 7]) (ψ := [0, 4, 5]) [some 1, some 2, none, some 5, some 3, some 0, some 4, some 6] [some 0, none, none, none, some 1, some 2, none] zyw_M_readsSum zyw_M_readsClause zye_M_readsClause (by decide +kernel) (zt_M_readsSum hr12) ⟨⟨_, rfl, fun _ => rfl⟩, ⟨_, rfl, fun _ => rfl⟩, ⟨_, rfl, fun _ => rfl⟩, ⟨_, rfl, fun _ => rfl⟩, ⟨_, rfl, fun _ => rfl⟩, ⟨_, rfl, fun _ => rfl⟩, ⟨_, rfl, fun _ => rfl⟩, trivial⟩ ⟨rfl, rfl, rfl, trivial⟩ rfl rfl rfl rfl rfl rfl rfl) zd216_97 zxt220 rfl (by decide) (by decide) rfl ?_
          refine zv_zne hB zd216_100 rfl (fun hc13 => ?_) (fun hc13 => ?_)
          · rw [if_neg hc13] at h
            refine zv_ald hB zd216_105 rfl rfl rfl ?_
            refine zv_getr hB zd216_106 rfl ?_
            refine zv_ald hB zd216_109 rfl rfl rfl ?_
            refine zv_getf hB zd216_110 rfl rfl (fun _ _ => ?_)
            refine zv_ald hB zd216_113 rfl rfl rfl ?_
            refine zv_getf hB zd216_114 rfl rfl (fun _ _ => ?_)
            refine zv_iast hB zd216_117 rfl rfl (zi_ix_ok c5).1 (zi_ix_ok c5).2 ?_
            refine zv_ald hB zd216_118 rfl rfl rfl ?_
            obtain ⟨r14, hr14, h⟩ := zi_bind h
            refine zv_cv hB (zv_emq (va2 := [.inr 0]) (F := [.inl r12.2.2.1, .inl f1, .inl f2, .inl r12.2.2.2.2.2.1, .inl r12.2.2.2.1, .inl r12.2.1, .inl r12.2.2.2.2.1, .inl r12.2.2.2.2.2.2.1]) (F' := [.inl r14.2.1, .inl f1, .inl f2, .inl r14.2.2.2.2.2.1, .inl r14.2.2.1, .inl r14.2.2.2.1, .inl r14.2.2.2.2.1, .inl r14.2.2.2.2.2.2.1]) (G := [g0, (zv_up g1 f2 r1), (zv_up g2 f2 f3), (zv_up g3 f2 r12.2.2.2.2.2.1), r12.2.2.2.2.2.2.2.1, r12.2.2.2.2.2.2.2.2, g6]) (G' := [g0, (zv_up g1 f2 r1), (zv_up g2 f2 f3), (zv_up g3 f2 r12.2.2.2.2.2.1), r14.2.2.2.2.2.2.2.1, r14.2.2.2.2.2.2.2.2, g6]) (ρ := [0, 1, 5, 6]) (φ := [0, 1, 4, 5, 6, 3, 7]) (ψ := [0, 4, 5]) [some 0, some 1, none, some 5, some 2, some 3, some 4, some 6] [some 0, none, none, none, some 1, some 2, none] zyw_M_readsCondition zyw_M_readsClause zye_M_readsClause (by decide +kernel) (zt_M_readsCondition hr14) ⟨⟨_, rfl, fun _ => rfl⟩, ⟨_, rfl, fun _ => rfl⟩, ⟨_, rfl, fun _ => rfl⟩, ⟨_, rfl, fun _ => rfl⟩, ⟨_, rfl, fun _ => rfl⟩, ⟨_, rfl, fun _ => rfl⟩, ⟨_, rfl, fun _ => rfl⟩, trivial⟩ ⟨rfl, rfl, rfl, trivial⟩ rfl rfl rfl rfl rfl rfl rfl) zd216_119 zxt231 rfl (by decide) (by decide) rfl ?_
            refine zv_zne hB zd216_122 rfl (fun hc15 => ?_) (fun hc15 => ?_)
            · rw [if_neg hc15] at h
              refine zv_ald hB zd216_127 rfl rfl rfl ?_
              refine zv_getr hB zd216_128 rfl ?_
              refine zv_ald hB zd216_131 rfl rfl rfl ?_
              refine zv_getf hB zd216_132 rfl rfl (fun _ _ => ?_)
              refine zv_ald hB zd216_135 rfl rfl rfl ?_
              refine zv_getf hB zd216_136 rfl rfl (fun _ _ => ?_)
              refine zv_iast hB zd216_139 rfl rfl (zi_ix_ok c5).1 (zi_ix_ok c5).2 ?_
              refine zv_ald hB zd216_140 rfl rfl rfl ?_
              refine zv_ald hB zd216_141 rfl rfl rfl ?_
              refine zv_getf hB zd216_142 rfl rfl (fun _ _ => ?_)
              refine zv_con hB zd216_145 rfl ?_
              refine zv_addw hB zd216_146 ?_
              refine zv_putf hB zd216_147 rfl rfl (fun h => by cases h) rfl ?_
              refine zv_con hB zd216_150 rfl ?_
              have hw := Option.some.inj h
              subst hw
              exact hret _ _ _ _ _ zd216_151 (by constructor <;> decide) ⟨rfl, rfl, rfl⟩
            · rw [if_pos hc15] at h
              refine zv_con hB zd216_125 rfl ?_
              have hw := Option.some.inj h
              subst hw
              exact hret _ _ _ _ _ zd216_126 (by constructor <;> decide) ⟨rfl, rfl, rfl⟩
          · rw [if_pos hc13] at h
            refine zv_con hB zd216_103 rfl ?_
            have hw := Option.some.inj h
            subst hw
            exact hret _ _ _ _ _ zd216_104 (by constructor <;> decide) ⟨rfl, rfl, rfl⟩
    · rw [if_pos hc4] at h
      refine zv_ald hB zd216_31 rfl rfl rfl ?_
      refine zv_con hB zd216_32 rfl ?_
      refine zv_ald hB zd216_33 rfl rfl rfl ?_
      refine zv_getf hB zd216_34 rfl rfl (fun _ _ => ?_)
      obtain ⟨r16, hr16, h⟩ := zi_bind h
      refine zv_cv hB (zv_emq (va2 := [.inr 0, .inl 4, .inl f0]) (F := [.inl f0, .inl f1, .inl f2, .inl f3, .inl f4, .inl f5, .inl f6, .inl f7]) (F' := [.inl f0, .inl f1, .inl f2, .inl f3, .inl f4, .inl f5, .inl r16.2, .inl f7]) (G := [g0, g1, g2, g3, g4, g5, g6]) (G' := [g0, g1, g2, g3, g4, g5, g6]) (ρ := [0]) (φ := [6]) (ψ := []) [none, none, none, none, none, none, some 0, none] [none, none, none, none, none, none, none] zyw_M_wrongAt zyw_M_readsClause zye_M_readsClause (by decide +kernel) (zt_M_wrongAt hr16) ⟨⟨_, rfl, fun _ => rfl⟩, trivial⟩ trivial rfl rfl rfl rfl rfl rfl rfl) zd216_37 zxt219 rfl (by decide) (by decide) rfl ?_
      obtain ⟨c17, h⟩ := zi_if h
      have hw := Option.some.inj h
      subst hw
      exact hret _ _ _ _ _ zd216_40 (zi_bo_ok c17) ⟨rfl, rfl, rfl⟩
  · rw [if_pos hc3] at h
    refine zv_ald hB zd216_12 rfl rfl rfl ?_
    refine zv_con hB zd216_13 rfl ?_
    refine zv_ald hB zd216_14 rfl rfl rfl ?_
    refine zv_getf hB zd216_15 rfl rfl (fun _ _ => ?_)
    obtain ⟨r18, hr18, h⟩ := zi_bind h
    refine zv_cv hB (zv_emq (va2 := [.inr 0, .inl 1, .inl f0]) (F := [.inl f0, .inl f1, .inl f2, .inl f3, .inl f4, .inl f5, .inl f6, .inl f7]) (F' := [.inl f0, .inl f1, .inl f2, .inl f3, .inl f4, .inl f5, .inl r18.2, .inl f7]) (G := [g0, g1, g2, g3, g4, g5, g6]) (G' := [g0, g1, g2, g3, g4, g5, g6]) (ρ := [0]) (φ := [6]) (ψ := []) [none, none, none, none, none, none, some 0, none] [none, none, none, none, none, none, none] zyw_M_wrongAt zyw_M_readsClause zye_M_readsClause (by decide +kernel) (zt_M_wrongAt hr18) ⟨⟨_, rfl, fun _ => rfl⟩, trivial⟩ trivial rfl rfl rfl rfl rfl rfl rfl) zd216_18 zxt219 rfl (by decide) (by decide) rfl ?_
    obtain ⟨c19, h⟩ := zi_if h
    have hw := Option.some.inj h
    subst hw
    exact hret _ _ _ _ _ zd216_21 (zi_bo_ok c19) ⟨rfl, rfl, rfl⟩
/-! M_takes (I)Z -/
-- names: 0 StarTalesModel('arg', 0), 1 (1, 220)(0, 12, 3)
-- fields: f0 = 0.place0_, f1 = 0.length0_, f2 = 0.fault_; arrays: g0 = 1; out: [('ret', None), ('f', 0), ('f', 2)]
abbrev zy_M_takes : zNL := (2, [(0, 12)], [(0, 12, 5, 0), (0, 12, 6, 1), (0, 12, 7, 2)], [(0, 12, 3, 1)], [(1, 1, 220, 0)])
theorem zyw_M_takes : zv_wf zy_M_takes = true := by decide +kernel
theorem zye_M_takes : zv_ek2 zy_M_takes = true := by decide +kernel
def zf_M_takes (x1 : Int) (f0 : Int) (f1 : Int) (f2 : Int) (g0 : (Int → Int)) : Option (Int × Int × Int) := (zf_M_here f0 f1 g0).bind fun r1 => (if r1 = x1 then (some (1, (zi_w (f0 + 1)), f2)) else ((zf_M_wrongAt 1 f0 f2).bind fun r3 => (cond (zi_bo r3.1) (some (r3.1, f0, r3.2)) none)))
theorem zd236_0 : decode zxm236.2.1 0 = .ok (.aload_n 0, 1) := by decide +kernel
theorem zd236_1 : decode zxm236.2.1 1 = .ok (.invokevirtual 182, 3) := by decide +kernel
theorem zd236_4 : decode zxm236.2.1 4 = .ok (.iload_n 1, 1) := by decide +kernel
theorem zd236_5 : decode zxm236.2.1 5 = .ok (.if_icmp .eq 13, 3) := by decide +kernel
theorem zd236_8 : decode zxm236.2.1 8 = .ok (.aload_n 0, 1) := by decide +kernel
theorem zd236_9 : decode zxm236.2.1 9 = .ok (.iconst 1, 1) := by decide +kernel
theorem zd236_10 : decode zxm236.2.1 10 = .ok (.aload_n 0, 1) := by decide +kernel
theorem zd236_11 : decode zxm236.2.1 11 = .ok (.getfield 176, 3) := by decide +kernel
theorem zd236_14 : decode zxm236.2.1 14 = .ok (.invokevirtual 189, 3) := by decide +kernel
theorem zd236_17 : decode zxm236.2.1 17 = .ok (.ireturn, 1) := by decide +kernel
theorem zd236_18 : decode zxm236.2.1 18 = .ok (.aload_n 0, 1) := by decide +kernel
theorem zd236_19 : decode zxm236.2.1 19 = .ok (.aload_n 0, 1) := by decide +kernel
theorem zd236_20 : decode zxm236.2.1 20 = .ok (.getfield 176, 3) := by decide +kernel
theorem zd236_23 : decode zxm236.2.1 23 = .ok (.iconst 1, 1) := by decide +kernel
theorem zd236_24 : decode zxm236.2.1 24 = .ok (.iadd, 1) := by decide +kernel
theorem zd236_25 : decode zxm236.2.1 25 = .ok (.putfield 176, 3) := by decide +kernel
theorem zd236_28 : decode zxm236.2.1 28 = .ok (.iconst 1, 1) := by decide +kernel
theorem zd236_29 : decode zxm236.2.1 29 = .ok (.ireturn, 1) := by decide +kernel
theorem zt_M_takes {x1 : Int} {f0 : Int} {f1 : Int} {f2 : Int} {g0 : (Int → Int)} {o : Int × Int × Int} (h : zf_M_takes x1 f0 f1 f2 g0 = some o) : zv_Fn z_TB z_cl z_KX zy_M_takes zxm236 (1, 60) [.inr 0, .inl x1] [.inl f0, .inl f1, .inl f2] [g0] (some o.1) [.inl o.2.1, .inl f1, .inl o.2.2] [g0] := zv_meth (K := (z_KF13, z_KC13, z_KL13, z_KT13, [], [], [], none)) (FT := z_FT) (MT := z_MT) (n := 2) zxp236 (z_ks13 _ (fun _ h => List.mem_cons_of_mem _ h) _ _ _ _ (fun j r h _ => by cases h)) (fun _ _ => zs_KX_p) zyw_M_takes (fun va F G h => by obtain ⟨rfl, _⟩ := h; rfl) (fun va F G h => by obtain ⟨rfl, _⟩ := h; rfl) rfl fun good va F G hB hret hvret hP => by
  obtain ⟨rfl, rfl, rfl⟩ := hP
  unfold zf_M_takes at h
  refine zv_ald hB zd236_0 rfl rfl rfl ?_
  obtain ⟨r1, hr1, h⟩ := zi_bind h
  refine zv_cv hB (zv_emq (va2 := [.inr 0]) (F := [.inl f0, .inl f1, .inl f2]) (F' := [.inl f0, .inl f1, .inl f2]) (G := [g0]) (G' := [g0]) (ρ := [0, 1]) (φ := [0, 1]) (ψ := [0]) [some 0, some 1, none] [some 0] zyw_M_here zyw_M_takes zye_M_takes (by decide +kernel) (zt_M_here hr1) ⟨⟨_, rfl, fun _ => rfl⟩, ⟨_, rfl, fun _ => rfl⟩, trivial⟩ ⟨rfl, trivial⟩ rfl rfl rfl rfl rfl rfl rfl) zd236_1 zxt217 rfl (by decide) (by decide) rfl ?_
  refine zv_ild hB zd236_4 rfl rfl ?_
  refine zv_ceq hB zd236_5 rfl (fun hc2 => ?_) (fun hc2 => ?_)
  · rw [if_pos hc2] at h
    refine zv_ald hB zd236_18 rfl rfl rfl ?_
    refine zv_ald hB zd236_19 rfl rfl rfl ?_
    refine zv_getf hB zd236_20 rfl rfl (fun _ _ => ?_)
    refine zv_con hB zd236_23 rfl ?_
    refine zv_addw hB zd236_24 ?_
    refine zv_putf hB zd236_25 rfl rfl (fun h => by cases h) rfl ?_
    refine zv_con hB zd236_28 rfl ?_
    have hw := Option.some.inj h
    subst hw
    exact hret _ _ _ _ _ zd236_29 (by constructor <;> decide) ⟨rfl, rfl, rfl⟩
  · rw [if_neg hc2] at h
    refine zv_ald hB zd236_8 rfl rfl rfl ?_
    refine zv_con hB zd236_9 rfl ?_
    refine zv_ald hB zd236_10 rfl rfl rfl ?_
    refine zv_getf hB zd236_11 rfl rfl (fun _ _ => ?_)
    obtain ⟨r3, hr3, h⟩ := zi_bind h
    refine zv_cv hB (zv_emq (va2 := [.inr 0, .inl 1, .inl f0]) (F := [.inl f0, .inl f1, .inl f2]) (F' := [.inl f0, .inl f1, .inl r3.2]) (G := [g0]) (G' := [g0]) (ρ := [0]) (φ := [2]) (ψ := []) [none, none, some 0] [none] zyw_M_wrongAt zyw_M_takes zye_M_takes (by decide +kernel) (zt_M_wrongAt hr3) ⟨⟨_, rfl, fun _ => rfl⟩, trivial⟩ trivial rfl rfl rfl rfl rfl rfl rfl) zd236_14 zxt219 rfl (by decide) (by decide) rfl ?_
    obtain ⟨c4, h⟩ := zi_if h
    have hw := Option.some.inj h
    subst hw
    exact hret _ _ _ _ _ zd236_17 (zi_bo_ok c4) ⟨rfl, rfl, rfl⟩
end
