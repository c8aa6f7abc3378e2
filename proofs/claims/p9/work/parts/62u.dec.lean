/-! Methods as functions, and that they do what these do. -/
/-! M_check (I)I -/
-- names: 0 StarTalesModel('arg', 0), 1 (1, 220)(0, 12, 3), 2 (0, 422)(0, 12, 0)
-- fields: f0 = 0.taped_; arrays: g0 = 1, g1 = 2; out: [('ret', None), ('f', 0)]
abbrev zy_M_check : zNL := (3, [(0, 12)], [(0, 12, 4, 0)], [(0, 12, 3, 1), (0, 12, 0, 2)], [(1, 1, 220, 0), (2, 0, 422, 1)])
theorem zyw_M_check : zv_wf zy_M_check = true := by decide +kernel
theorem zye_M_check : zv_ek2 zy_M_check = true := by decide +kernel
def zf_M_check_l0_b (x1 : Int) (f0 : Int) (g0 : (Int → Int)) (g1 : (Int → Int)) (rec : Int → Option (((Unit) ⊕ (Int × Int)))) (x2 : Int) : Option (((Unit) ⊕ (Int × Int))) := if x2 < x1 then ((zf_M_tapeNumber x2 g0).bind fun r5 => ((zf_M_isShip x2 g1).bind fun r6 => (if r6 = 0 then (if r5 = 0 then (rec (zi_w (x2 + 1))) else (some (.inr (x2, f0)))) else (cond (zi_ix (zi_w (120 + x2)) 422) (if r5 = (g1 (zi_w (120 + x2))) then (rec (zi_w (x2 + 1))) else (some (.inr (x2, f0)))) none)))) else (some (.inl ()))
def zf_M_check_l0 (x1 : Int) (f0 : Int) (g0 : (Int → Int)) (g1 : (Int → Int)) : Nat → Int → Option (((Unit) ⊕ (Int × Int)))
  | 0, _ => none
  | n + 1, x2 => zf_M_check_l0_b x1 f0 g0 g1 (zf_M_check_l0 x1 f0 g0 g1 n) x2
def zf_M_check (x1 : Int) (f0 : Int) (g0 : (Int → Int)) (g1 : (Int → Int)) : Option (Int × Int) := (zf_M_in x1 0 6).bind fun r1 => (if r1 = 0 then (some ((-2), f0)) else (if (zi_div f0 4) < x1 then (some ((-2), f0)) else ((zf_M_check_l0 x1 0 g0 g1 zi_fu 0).bind fun q11 => Sum.elim (fun e12 => (some ((-1), 0))) (fun w13 => some w13) q11)))
theorem zd321_0 : decode zxm321.2.1 0 = .ok (.iload_n 1, 1) := by decide +kernel
theorem zd321_1 : decode zxm321.2.1 1 = .ok (.iconst 0, 1) := by decide +kernel
theorem zd321_2 : decode zxm321.2.1 2 = .ok (.bipush 6, 2) := by decide +kernel
theorem zd321_4 : decode zxm321.2.1 4 = .ok (.invokestatic 150, 3) := by decide +kernel
theorem zd321_7 : decode zxm321.2.1 7 = .ok (.ifCond .eq 13, 3) := by decide +kernel
theorem zd321_10 : decode zxm321.2.1 10 = .ok (.iload_n 1, 1) := by decide +kernel
theorem zd321_11 : decode zxm321.2.1 11 = .ok (.aload_n 0, 1) := by decide +kernel
theorem zd321_12 : decode zxm321.2.1 12 = .ok (.getfield 168, 3) := by decide +kernel
theorem zd321_15 : decode zxm321.2.1 15 = .ok (.iconst 4, 1) := by decide +kernel
theorem zd321_16 : decode zxm321.2.1 16 = .ok (.idiv, 1) := by decide +kernel
theorem zd321_17 : decode zxm321.2.1 17 = .ok (.if_icmp .le 6, 3) := by decide +kernel
theorem zd321_20 : decode zxm321.2.1 20 = .ok (.bipush (-2), 2) := by decide +kernel
theorem zd321_22 : decode zxm321.2.1 22 = .ok (.ireturn, 1) := by decide +kernel
theorem zd321_23 : decode zxm321.2.1 23 = .ok (.aload_n 0, 1) := by decide +kernel
theorem zd321_24 : decode zxm321.2.1 24 = .ok (.iconst 0, 1) := by decide +kernel
theorem zd321_25 : decode zxm321.2.1 25 = .ok (.putfield 168, 3) := by decide +kernel
theorem zd321_28 : decode zxm321.2.1 28 = .ok (.iconst 0, 1) := by decide +kernel
theorem zd321_29 : decode zxm321.2.1 29 = .ok (.istore_n 2, 1) := by decide +kernel
theorem zd321_30 : decode zxm321.2.1 30 = .ok (.iload_n 2, 1) := by decide +kernel
theorem zd321_31 : decode zxm321.2.1 31 = .ok (.iload_n 1, 1) := by decide +kernel
theorem zd321_32 : decode zxm321.2.1 32 = .ok (.if_icmp .ge 40, 3) := by decide +kernel
theorem zd321_35 : decode zxm321.2.1 35 = .ok (.aload_n 0, 1) := by decide +kernel
theorem zd321_36 : decode zxm321.2.1 36 = .ok (.iload_n 2, 1) := by decide +kernel
theorem zd321_37 : decode zxm321.2.1 37 = .ok (.invokevirtual 483, 3) := by decide +kernel
theorem zd321_40 : decode zxm321.2.1 40 = .ok (.aload_n 0, 1) := by decide +kernel
theorem zd321_41 : decode zxm321.2.1 41 = .ok (.iload_n 2, 1) := by decide +kernel
theorem zd321_42 : decode zxm321.2.1 42 = .ok (.invokevirtual 162, 3) := by decide +kernel
theorem zd321_45 : decode zxm321.2.1 45 = .ok (.ifCond .eq 15, 3) := by decide +kernel
theorem zd321_48 : decode zxm321.2.1 48 = .ok (.aload_n 0, 1) := by decide +kernel
theorem zd321_49 : decode zxm321.2.1 49 = .ok (.getfield 7, 3) := by decide +kernel
theorem zd321_52 : decode zxm321.2.1 52 = .ok (.bipush 120, 2) := by decide +kernel
theorem zd321_54 : decode zxm321.2.1 54 = .ok (.iload_n 2, 1) := by decide +kernel
theorem zd321_55 : decode zxm321.2.1 55 = .ok (.iadd, 1) := by decide +kernel
theorem zd321_56 : decode zxm321.2.1 56 = .ok (.iaload, 1) := by decide +kernel
theorem zd321_57 : decode zxm321.2.1 57 = .ok (.goto 4, 3) := by decide +kernel
theorem zd321_60 : decode zxm321.2.1 60 = .ok (.iconst 0, 1) := by decide +kernel
theorem zd321_61 : decode zxm321.2.1 61 = .ok (.if_icmp .eq 5, 3) := by decide +kernel
theorem zd321_64 : decode zxm321.2.1 64 = .ok (.iload_n 2, 1) := by decide +kernel
theorem zd321_65 : decode zxm321.2.1 65 = .ok (.ireturn, 1) := by decide +kernel
theorem zd321_66 : decode zxm321.2.1 66 = .ok (.iinc 2 1, 3) := by decide +kernel
theorem zd321_69 : decode zxm321.2.1 69 = .ok (.goto (-39), 3) := by decide +kernel
theorem zd321_72 : decode zxm321.2.1 72 = .ok (.iconst (-1), 1) := by decide +kernel
theorem zd321_73 : decode zxm321.2.1 73 = .ok (.ireturn, 1) := by decide +kernel
theorem zt_M_check {x1 : Int} {f0 : Int} {g0 : (Int → Int)} {g1 : (Int → Int)} {o : Int × Int} (h : zf_M_check x1 f0 g0 g1 = some o) : zv_Fn z_TB z_cl z_KX zy_M_check zxm321 (2, 120) [.inr 0, .inl x1] [.inl f0] [g0, g1] (some o.1) [.inl o.2] [g0, g1] := zv_meth (K := (z_KF13, z_KC13, z_KL13, z_KT13, [], [], [], none)) (FT := z_FT) (MT := z_MT) (n := 2) zxp321 (z_ks13 _ (fun _ h => List.mem_cons_of_mem _ h) _ _ _ _ (fun j r h _ => by cases h)) (fun _ _ => zs_KX_p) zyw_M_check (fun va F G h => by obtain ⟨rfl, _⟩ := h; rfl) (fun va F G h => by obtain ⟨rfl, _⟩ := h; rfl) rfl fun good va F G hB hret hvret hP => by
  obtain ⟨rfl, rfl, rfl⟩ := hP
  have l0 : ∀ (n : Nat) (x1 : Int) (x2 : Int) (f0 : Int) (q : ((Unit) ⊕ (Int × Int))), zf_M_check_l0 x1 f0 g0 g1 n x2 = some q → (Sum.elim (fun e : Unit => good 72 [.inr 1000, .inr 1000, .inr 1000] [] [.inl f0] [g0, g1]) (fun w : Int × Int => w = o) q) → good 30 [.inr 0, .inl x1, .inl x2] [] [.inl f0] [g0, g1] := by
    intro n
    induction n with
    | zero => intro x1 x2 f0 q h; exact absurd (show none = some q from h) (fun h => by cases h)
    | succ n ih =>
      intro x1 x2 f0 q h hK
      replace h : zf_M_check_l0_b x1 f0 g0 g1 (zf_M_check_l0 x1 f0 g0 g1 n) x2 = some q := h
      unfold zf_M_check_l0_b at h
      refine zv_ild hB zd321_30 rfl rfl ?_
      refine zv_ild hB zd321_31 rfl rfl ?_
      refine zv_cge hB zd321_32 rfl (fun hc4 => ?_) (fun hc4 => ?_)
      · rw [if_neg (Int.not_lt.mpr hc4)] at h
        have hq := Option.some.inj h
        subst hq
        refine zv_wk hB (L' := [.inr 1000, .inr 1000, .inr 1000]) (F' := [.inl f0]) ⟨fun (h : zv_is (.inr 1000)) => (Nat.lt_irrefl 1000 h).elim, fun (h : zv_is (.inr 1000)) => (Nat.lt_irrefl 1000 h).elim, fun (h : zv_is (.inr 1000)) => (Nat.lt_irrefl 1000 h).elim, trivial⟩ ⟨fun _ => rfl, trivial⟩ ?_
        exact hK
      · rw [if_pos hc4] at h
        refine zv_ald hB zd321_35 rfl rfl rfl ?_
        refine zv_ild hB zd321_36 rfl rfl ?_
        obtain ⟨r5, hr5, h⟩ := zi_bind h
        refine zv_cv hB (zv_emq (va2 := [.inr 0, .inl x2]) (F := [.inl f0]) (F' := [.inl f0]) (G := [g0, g1]) (G' := [g0, g1]) (ρ := [0, 1]) (φ := []) (ψ := [0]) [none] [some 0, none] zyw_M_tapeNumber zyw_M_check zye_M_check (by decide +kernel) (zt_M_tapeNumber hr5) trivial ⟨rfl, trivial⟩ rfl rfl rfl rfl rfl rfl rfl) zd321_37 zxt322 rfl (by decide) (by decide) rfl ?_
        refine zv_ald hB zd321_40 rfl rfl rfl ?_
        refine zv_ild hB zd321_41 rfl rfl ?_
        obtain ⟨r6, hr6, h⟩ := zi_bind h
        refine zv_cv hB (zv_emq (va2 := [.inr 0, .inl x2]) (F := [.inl f0]) (F' := [.inl f0]) (G := [g0, g1]) (G' := [g0, g1]) (ρ := [0, 2]) (φ := []) (ψ := [1]) [none] [none, some 0] zyw_M_isShip zyw_M_check zye_M_check (by decide +kernel) (zt_M_isShip hr6) trivial ⟨rfl, trivial⟩ rfl rfl rfl rfl rfl rfl rfl) zd321_42 zxt210 rfl (by decide) (by decide) rfl ?_
        refine zv_zeq hB zd321_45 rfl (fun hc7 => ?_) (fun hc7 => ?_)
        · rw [if_pos hc7] at h
          refine zv_con hB zd321_60 rfl ?_
          refine zv_ceq hB zd321_61 rfl (fun hc8 => ?_) (fun hc8 => ?_)
          · rw [if_pos hc8] at h
            refine zv_iincw hB zd321_66 rfl rfl ?_
            refine zv_goto hB zd321_69 rfl ?_
            exact ih _ _ _ q h hK
          · rw [if_neg hc8] at h
            refine zv_ild hB zd321_64 rfl rfl ?_
            have hw : (x2, f0) = o := zi_rk (Option.some.inj h) hK
            subst hw
            exact hret _ _ _ _ _ zd321_65 (by trivial) ⟨rfl, rfl, rfl⟩
        · rw [if_neg hc7] at h
          refine zv_ald hB zd321_48 rfl rfl rfl ?_
          refine zv_getr hB zd321_49 rfl ?_
          refine zv_con hB zd321_52 rfl ?_
          refine zv_ild hB zd321_54 rfl rfl ?_
          refine zv_addw hB zd321_55 ?_
          obtain ⟨c9, h⟩ := zi_if h
          refine zv_iald hB zd321_56 rfl rfl (zi_ix_ok c9).1 (zi_ix_ok c9).2 (fun _ _ => ?_)
          refine zv_goto hB zd321_57 rfl ?_
          refine zv_ceq hB zd321_61 rfl (fun hc10 => ?_) (fun hc10 => ?_)
          · rw [if_pos hc10] at h
            refine zv_iincw hB zd321_66 rfl rfl ?_
            refine zv_goto hB zd321_69 rfl ?_
            exact ih _ _ _ q h hK
          · rw [if_neg hc10] at h
            refine zv_ild hB zd321_64 rfl rfl ?_
            have hw : (x2, f0) = o := zi_rk (Option.some.inj h) hK
            subst hw
            exact hret _ _ _ _ _ zd321_65 (by trivial) ⟨rfl, rfl, rfl⟩
  unfold zf_M_check at h
  refine zv_ild hB zd321_0 rfl rfl ?_
  refine zv_con hB zd321_1 rfl ?_
  refine zv_con hB zd321_2 rfl ?_
  obtain ⟨r1, hr1, h⟩ := zi_bind h
  refine zv_cs hB (zv_emq (va2 := [.inl x1, .inl 0, .inl 6]) (F := [.inl f0]) (F' := [.inl f0]) (G := [g0, g1]) (G' := [g0, g1]) (ρ := []) (φ := []) (ψ := []) [none] [none, none] zyw_M_in zyw_M_check zye_M_check (by decide +kernel) (zt_M_in hr1) trivial trivial rfl rfl rfl rfl rfl rfl rfl) zd321_4 zxt200 rfl (by decide) (by decide) rfl ?_
  refine zv_zeq hB zd321_7 rfl (fun hc2 => ?_) (fun hc2 => ?_)
  · rw [if_pos hc2] at h
    refine zv_con hB zd321_20 rfl ?_
    have hw := Option.some.inj h
    subst hw
    exact hret _ _ _ _ _ zd321_22 (by trivial) ⟨rfl, rfl, rfl⟩
  · rw [if_neg hc2] at h
    refine zv_ild hB zd321_10 rfl rfl ?_
    refine zv_ald hB zd321_11 rfl rfl rfl ?_
    refine zv_getf hB zd321_12 rfl rfl (fun _ _ => ?_)
    refine zv_con hB zd321_15 rfl ?_
    refine zv_divw hB zd321_16 (by decide) ?_
    refine zv_cle hB zd321_17 rfl (fun hc3 => ?_) (fun hc3 => ?_)
    · rw [if_neg (Int.not_lt.mpr hc3)] at h
      refine zv_ald hB zd321_23 rfl rfl rfl ?_
      refine zv_con hB zd321_24 rfl ?_
      refine zv_putf hB zd321_25 rfl rfl (fun h => by cases h) rfl ?_
      refine zv_con hB zd321_28 rfl ?_
      refine zv_ist hB zd321_29 rfl rfl rfl ?_
      obtain ⟨q11, hq11, h⟩ := zi_bind h
      refine l0 _ _ _ _ q11 hq11 ?_
      rcases q11 with e12 | w13
      · replace h := zi_sl h
        show good 72 [.inr 1000, .inr 1000, .inr 1000] [] [.inl 0] [g0, g1]
        refine zv_con hB zd321_72 rfl ?_
        have hw := Option.some.inj h
        subst hw
        exact hret _ _ _ _ _ zd321_73 (by trivial) ⟨rfl, rfl, rfl⟩
      · exact Option.some.inj h
    · rw [if_pos hc3] at h
      refine zv_con hB zd321_20 rfl ?_
      have hw := Option.some.inj h
      subst hw
      exact hret _ _ _ _ _ zd321_22 (by trivial) ⟨rfl, rfl, rfl⟩
/-! M_landMany ()I -/
-- names: 0 StarTalesModel('arg', 0), 1 (0, 422)(0, 12, 0)
-- fields: ; arrays: g0 = 1; out: [('ret', None)]
abbrev zy_M_landMany : zNL := (2, [(0, 12)], [], [(0, 12, 0, 1)], [(1, 0, 422, 0)])
theorem zyw_M_landMany : zv_wf zy_M_landMany = true := by decide +kernel
theorem zye_M_landMany : zv_ek2 zy_M_landMany = true := by decide +kernel
def zf_M_landMany_l0_b (g0 : (Int → Int)) (rec : Int → Int → Option (Int)) (x1 : Int) (x2 : Int) : Option (Int) := if x2 < 288 then (cond (zi_ix (zi_w (134 + x2)) 422) (rec (zi_w (x1 + (g0 (zi_w (134 + x2))))) (zi_w (x2 + 1))) none) else (some x1)
def zf_M_landMany_l0 (g0 : (Int → Int)) : Nat → Int → Int → Option (Int)
  | 0, _, _ => none
  | n + 1, x1, x2 => zf_M_landMany_l0_b g0 (zf_M_landMany_l0 g0 n) x1 x2
def zf_M_landMany (g0 : (Int → Int)) : Option (Int) := (zf_M_landMany_l0 g0 zi_fu 0 0).bind fun q3 => (some q3)
theorem zd324_0 : decode zxm324.2.1 0 = .ok (.iconst 0, 1) := by decide +kernel
theorem zd324_1 : decode zxm324.2.1 1 = .ok (.istore_n 1, 1) := by decide +kernel
theorem zd324_2 : decode zxm324.2.1 2 = .ok (.iconst 0, 1) := by decide +kernel
theorem zd324_3 : decode zxm324.2.1 3 = .ok (.istore_n 2, 1) := by decide +kernel
theorem zd324_4 : decode zxm324.2.1 4 = .ok (.iload_n 2, 1) := by decide +kernel
theorem zd324_5 : decode zxm324.2.1 5 = .ok (.sipush 288, 3) := by decide +kernel
theorem zd324_8 : decode zxm324.2.1 8 = .ok (.if_icmp .ge 22, 3) := by decide +kernel
theorem zd324_11 : decode zxm324.2.1 11 = .ok (.iload_n 1, 1) := by decide +kernel
theorem zd324_12 : decode zxm324.2.1 12 = .ok (.aload_n 0, 1) := by decide +kernel
theorem zd324_13 : decode zxm324.2.1 13 = .ok (.getfield 7, 3) := by decide +kernel
theorem zd324_16 : decode zxm324.2.1 16 = .ok (.sipush 134, 3) := by decide +kernel
theorem zd324_19 : decode zxm324.2.1 19 = .ok (.iload_n 2, 1) := by decide +kernel
theorem zd324_20 : decode zxm324.2.1 20 = .ok (.iadd, 1) := by decide +kernel
theorem zd324_21 : decode zxm324.2.1 21 = .ok (.iaload, 1) := by decide +kernel
theorem zd324_22 : decode zxm324.2.1 22 = .ok (.iadd, 1) := by decide +kernel
theorem zd324_23 : decode zxm324.2.1 23 = .ok (.istore_n 1, 1) := by decide +kernel
theorem zd324_24 : decode zxm324.2.1 24 = .ok (.iinc 2 1, 3) := by decide +kernel
theorem zd324_27 : decode zxm324.2.1 27 = .ok (.goto (-23), 3) := by decide +kernel
theorem zd324_30 : decode zxm324.2.1 30 = .ok (.iload_n 1, 1) := by decide +kernel
theorem zd324_31 : decode zxm324.2.1 31 = .ok (.ireturn, 1) := by decide +kernel
theorem zt_M_landMany {g0 : (Int → Int)} {o : Int} (h : zf_M_landMany g0 = some o) : zv_Fn z_TB z_cl z_KX zy_M_landMany zxm324 (0, 0) [.inr 0] [] [g0] (some o) [] [g0] := zv_meth (K := (z_KF13, z_KC13, z_KL13, z_KT13, [], [], [], none)) (FT := z_FT) (MT := z_MT) (n := 1) zxp324 (z_ks13 _ (fun _ h => List.mem_cons_of_mem _ h) _ _ _ _ (fun j r h _ => by cases h)) (fun _ _ => zs_KX_p) zyw_M_landMany (fun va F G h => by obtain ⟨rfl, _⟩ := h; rfl) (fun va F G h => by obtain ⟨rfl, _⟩ := h; rfl) rfl fun good va F G hB hret hvret hP => by
  obtain ⟨rfl, rfl, rfl⟩ := hP
  have l0 : ∀ (n : Nat) (x1 : Int) (x2 : Int) (q : Int), zf_M_landMany_l0 g0 n x1 x2 = some q → (good 30 [.inr 1000, .inl q, .inr 1000] [] [] [g0]) → good 4 [.inr 0, .inl x1, .inl x2] [] [] [g0] := by
    intro n
    induction n with
    | zero => intro x1 x2 q h; exact absurd (show none = some q from h) (fun h => by cases h)
    | succ n ih =>
      intro x1 x2 q h hK
      replace h : zf_M_landMany_l0_b g0 (zf_M_landMany_l0 g0 n) x1 x2 = some q := h
      unfold zf_M_landMany_l0_b at h
      refine zv_ild hB zd324_4 rfl rfl ?_
      refine zv_con hB zd324_5 rfl ?_
      refine zv_cge hB zd324_8 rfl (fun hc1 => ?_) (fun hc1 => ?_)
      · rw [if_neg (Int.not_lt.mpr hc1)] at h
        have hq := Option.some.inj h
        subst hq
        refine zv_wk hB (L' := [.inr 1000, .inl x1, .inr 1000]) (F' := []) ⟨fun (h : zv_is (.inr 1000)) => (Nat.lt_irrefl 1000 h).elim, fun _ => rfl, fun (h : zv_is (.inr 1000)) => (Nat.lt_irrefl 1000 h).elim, trivial⟩ trivial ?_
        exact hK
      · rw [if_pos hc1] at h
        refine zv_ild hB zd324_11 rfl rfl ?_
        refine zv_ald hB zd324_12 rfl rfl rfl ?_
        refine zv_getr hB zd324_13 rfl ?_
        refine zv_con hB zd324_16 rfl ?_
        refine zv_ild hB zd324_19 rfl rfl ?_
        refine zv_addw hB zd324_20 ?_
        obtain ⟨c2, h⟩ := zi_if h
        refine zv_iald hB zd324_21 rfl rfl (zi_ix_ok c2).1 (zi_ix_ok c2).2 (fun _ _ => ?_)
        refine zv_addw hB zd324_22 ?_
        refine zv_ist hB zd324_23 rfl rfl rfl ?_
        refine zv_iincw hB zd324_24 rfl rfl ?_
        refine zv_goto hB zd324_27 rfl ?_
        exact ih _ _ q h hK
  unfold zf_M_landMany at h
  refine zv_con hB zd324_0 rfl ?_
  refine zv_ist hB zd324_1 rfl rfl rfl ?_
  refine zv_con hB zd324_2 rfl ?_
  refine zv_ist hB zd324_3 rfl rfl rfl ?_
  obtain ⟨q3, hq3, h⟩ := zi_bind h
  refine l0 _ _ _ q3 hq3 ?_
  show good 30 [.inr 1000, .inl q3, .inr 1000] [] [] [g0]
  refine zv_ild hB zd324_30 rfl rfl ?_
  have hw := Option.some.inj h
  subst hw
  exact hret _ _ _ _ _ zd324_31 (by trivial) ⟨rfl, rfl, rfl⟩
/-! M_count (I)I -/
-- names: 0 StarTalesModel('arg', 0), 1 (0, 422)(0, 12, 0)
-- fields: f0 = 0.clauses_, f1 = 0.taleLines_, f2 = 0.taped_; arrays: g0 = 1; out: [('ret', None)]
abbrev zy_M_count : zNL := (2, [(0, 12)], [(0, 12, 13, 0), (0, 12, 31, 1), (0, 12, 4, 2)], [(0, 12, 0, 1)], [(1, 0, 422, 0)])
theorem zyw_M_count : zv_wf zy_M_count = true := by decide +kernel
theorem zye_M_count : zv_ek2 zy_M_count = true := by decide +kernel
def zf_M_count (x1 : Int) (f0 : Int) (f1 : Int) (f2 : Int) (g0 : (Int → Int)) : Option (Int) := if x1 = 0 then (some (g0 128)) else (if x1 = 1 then (some (g0 129)) else (if x1 = 2 then (some (g0 130)) else (if x1 = 3 then (some (g0 126)) else (if x1 = 4 then (some (g0 127)) else (if x1 = 5 then (some f0) else (if x1 = 6 then (some f1) else (if x1 = 7 then (some f2) else (if x1 = 8 then (some (g0 133)) else (if x1 = 9 then (some (zi_w ((zi_w (100 * (g0 131))) + (g0 132)))) else (if x1 = 10 then ((zf_M_landMany g0).bind fun r12 => (some r12)) else ((zf_M_in x1 20 25).bind fun r13 => (if r13 = 0 then (some (-1)) else ((zf_M_isShip (zi_w (x1 - 20)) g0).bind fun r15 => (if r15 = 0 then (some (-1)) else (cond (zi_ix (zi_w ((zi_w (120 + x1)) - 20)) 422) (some (g0 (zi_w ((zi_w (120 + x1)) - 20)))) none)))))))))))))))
theorem zd323_0 : decode zxm323.2.1 0 = .ok (.iload_n 1, 1) := by decide +kernel
theorem zd323_1 : decode zxm323.2.1 1 = .ok (.tableswitch 152 0 10 #[59, 68, 77, 86, 94, 102, 107, 112, 117, 126, 147], 59) := by decide +kernel
theorem zd323_60 : decode zxm323.2.1 60 = .ok (.aload_n 0, 1) := by decide +kernel
theorem zd323_61 : decode zxm323.2.1 61 = .ok (.getfield 7, 3) := by decide +kernel
theorem zd323_64 : decode zxm323.2.1 64 = .ok (.sipush 128, 3) := by decide +kernel
theorem zd323_67 : decode zxm323.2.1 67 = .ok (.iaload, 1) := by decide +kernel
theorem zd323_68 : decode zxm323.2.1 68 = .ok (.ireturn, 1) := by decide +kernel
theorem zd323_69 : decode zxm323.2.1 69 = .ok (.aload_n 0, 1) := by decide +kernel
theorem zd323_70 : decode zxm323.2.1 70 = .ok (.getfield 7, 3) := by decide +kernel
theorem zd323_73 : decode zxm323.2.1 73 = .ok (.sipush 129, 3) := by decide +kernel
theorem zd323_76 : decode zxm323.2.1 76 = .ok (.iaload, 1) := by decide +kernel
theorem zd323_77 : decode zxm323.2.1 77 = .ok (.ireturn, 1) := by decide +kernel
theorem zd323_78 : decode zxm323.2.1 78 = .ok (.aload_n 0, 1) := by decide +kernel
theorem zd323_79 : decode zxm323.2.1 79 = .ok (.getfield 7, 3) := by decide +kernel
theorem zd323_82 : decode zxm323.2.1 82 = .ok (.sipush 130, 3) := by decide +kernel
theorem zd323_85 : decode zxm323.2.1 85 = .ok (.iaload, 1) := by decide +kernel
theorem zd323_86 : decode zxm323.2.1 86 = .ok (.ireturn, 1) := by decide +kernel
theorem zd323_87 : decode zxm323.2.1 87 = .ok (.aload_n 0, 1) := by decide +kernel
theorem zd323_88 : decode zxm323.2.1 88 = .ok (.getfield 7, 3) := by decide +kernel
theorem zd323_91 : decode zxm323.2.1 91 = .ok (.bipush 126, 2) := by decide +kernel
theorem zd323_93 : decode zxm323.2.1 93 = .ok (.iaload, 1) := by decide +kernel
theorem zd323_94 : decode zxm323.2.1 94 = .ok (.ireturn, 1) := by decide +kernel
theorem zd323_95 : decode zxm323.2.1 95 = .ok (.aload_n 0, 1) := by decide +kernel
theorem zd323_96 : decode zxm323.2.1 96 = .ok (.getfield 7, 3) := by decide +kernel
theorem zd323_99 : decode zxm323.2.1 99 = .ok (.bipush 127, 2) := by decide +kernel
theorem zd323_101 : decode zxm323.2.1 101 = .ok (.iaload, 1) := by decide +kernel
theorem zd323_102 : decode zxm323.2.1 102 = .ok (.ireturn, 1) := by decide +kernel
theorem zd323_103 : decode zxm323.2.1 103 = .ok (.aload_n 0, 1) := by decide +kernel
theorem zd323_104 : decode zxm323.2.1 104 = .ok (.getfield 268, 3) := by decide +kernel
theorem zd323_107 : decode zxm323.2.1 107 = .ok (.ireturn, 1) := by decide +kernel
theorem zd323_108 : decode zxm323.2.1 108 = .ok (.aload_n 0, 1) := by decide +kernel
theorem zd323_109 : decode zxm323.2.1 109 = .ok (.getfield 351, 3) := by decide +kernel
theorem zd323_112 : decode zxm323.2.1 112 = .ok (.ireturn, 1) := by decide +kernel
theorem zd323_113 : decode zxm323.2.1 113 = .ok (.aload_n 0, 1) := by decide +kernel
theorem zd323_114 : decode zxm323.2.1 114 = .ok (.getfield 168, 3) := by decide +kernel
theorem zd323_117 : decode zxm323.2.1 117 = .ok (.ireturn, 1) := by decide +kernel
theorem zd323_118 : decode zxm323.2.1 118 = .ok (.aload_n 0, 1) := by decide +kernel
theorem zd323_119 : decode zxm323.2.1 119 = .ok (.getfield 7, 3) := by decide +kernel
theorem zd323_122 : decode zxm323.2.1 122 = .ok (.sipush 133, 3) := by decide +kernel
theorem zd323_125 : decode zxm323.2.1 125 = .ok (.iaload, 1) := by decide +kernel
theorem zd323_126 : decode zxm323.2.1 126 = .ok (.ireturn, 1) := by decide +kernel
theorem zd323_127 : decode zxm323.2.1 127 = .ok (.bipush 100, 2) := by decide +kernel
theorem zd323_129 : decode zxm323.2.1 129 = .ok (.aload_n 0, 1) := by decide +kernel
theorem zd323_130 : decode zxm323.2.1 130 = .ok (.getfield 7, 3) := by decide +kernel
theorem zd323_133 : decode zxm323.2.1 133 = .ok (.sipush 131, 3) := by decide +kernel
theorem zd323_136 : decode zxm323.2.1 136 = .ok (.iaload, 1) := by decide +kernel
theorem zd323_137 : decode zxm323.2.1 137 = .ok (.imul, 1) := by decide +kernel
theorem zd323_138 : decode zxm323.2.1 138 = .ok (.aload_n 0, 1) := by decide +kernel
theorem zd323_139 : decode zxm323.2.1 139 = .ok (.getfield 7, 3) := by decide +kernel
theorem zd323_142 : decode zxm323.2.1 142 = .ok (.sipush 132, 3) := by decide +kernel
theorem zd323_145 : decode zxm323.2.1 145 = .ok (.iaload, 1) := by decide +kernel
theorem zd323_146 : decode zxm323.2.1 146 = .ok (.iadd, 1) := by decide +kernel
theorem zd323_147 : decode zxm323.2.1 147 = .ok (.ireturn, 1) := by decide +kernel
theorem zd323_148 : decode zxm323.2.1 148 = .ok (.aload_n 0, 1) := by decide +kernel
theorem zd323_149 : decode zxm323.2.1 149 = .ok (.invokevirtual 486, 3) := by decide +kernel
theorem zd323_152 : decode zxm323.2.1 152 = .ok (.ireturn, 1) := by decide +kernel
theorem zd323_153 : decode zxm323.2.1 153 = .ok (.iload_n 1, 1) := by decide +kernel
theorem zd323_154 : decode zxm323.2.1 154 = .ok (.bipush 20, 2) := by decide +kernel
theorem zd323_156 : decode zxm323.2.1 156 = .ok (.bipush 25, 2) := by decide +kernel
theorem zd323_158 : decode zxm323.2.1 158 = .ok (.invokestatic 150, 3) := by decide +kernel
theorem zd323_161 : decode zxm323.2.1 161 = .ok (.ifCond .eq 29, 3) := by decide +kernel
theorem zd323_164 : decode zxm323.2.1 164 = .ok (.aload_n 0, 1) := by decide +kernel
theorem zd323_165 : decode zxm323.2.1 165 = .ok (.iload_n 1, 1) := by decide +kernel
theorem zd323_166 : decode zxm323.2.1 166 = .ok (.bipush 20, 2) := by decide +kernel
theorem zd323_168 : decode zxm323.2.1 168 = .ok (.isub, 1) := by decide +kernel
theorem zd323_169 : decode zxm323.2.1 169 = .ok (.invokevirtual 162, 3) := by decide +kernel
theorem zd323_172 : decode zxm323.2.1 172 = .ok (.ifCond .eq 18, 3) := by decide +kernel
theorem zd323_175 : decode zxm323.2.1 175 = .ok (.aload_n 0, 1) := by decide +kernel
theorem zd323_176 : decode zxm323.2.1 176 = .ok (.getfield 7, 3) := by decide +kernel
theorem zd323_179 : decode zxm323.2.1 179 = .ok (.bipush 120, 2) := by decide +kernel
theorem zd323_181 : decode zxm323.2.1 181 = .ok (.iload_n 1, 1) := by decide +kernel
theorem zd323_182 : decode zxm323.2.1 182 = .ok (.iadd, 1) := by decide +kernel
theorem zd323_183 : decode zxm323.2.1 183 = .ok (.bipush 20, 2) := by decide +kernel
theorem zd323_185 : decode zxm323.2.1 185 = .ok (.isub, 1) := by decide +kernel
theorem zd323_186 : decode zxm323.2.1 186 = .ok (.iaload, 1) := by decide +kernel
theorem zd323_187 : decode zxm323.2.1 187 = .ok (.goto 4, 3) := by decide +kernel
theorem zd323_190 : decode zxm323.2.1 190 = .ok (.iconst (-1), 1) := by decide +kernel
theorem zd323_191 : decode zxm323.2.1 191 = .ok (.ireturn, 1) := by decide +kernel
theorem zt_M_count {x1 : Int} {f0 : Int} {f1 : Int} {f2 : Int} {g0 : (Int → Int)} {o : Int} (h : zf_M_count x1 f0 f1 f2 g0 = some o) : zv_Fn z_TB z_cl z_KX zy_M_count zxm323 (2, 120) [.inr 0, .inl x1] [.inl f0, .inl f1, .inl f2] [g0] (some o) [.inl f0, .inl f1, .inl f2] [g0] := zv_meth (K := (z_KF13, z_KC13, z_KL13, z_KT13, [], [], [], none)) (FT := z_FT) (MT := z_MT) (n := 2) zxp323 (z_ks13 _ (fun _ h => List.mem_cons_of_mem _ h) _ _ _ _ (fun j r h _ => by cases h)) (fun _ _ => zs_KX_p) zyw_M_count (fun va F G h => by obtain ⟨rfl, _⟩ := h; rfl) (fun va F G h => by obtain ⟨rfl, _⟩ := h; rfl) rfl fun good va F G hB hret hvret hP => by
  obtain ⟨rfl, rfl, rfl⟩ := hP
  unfold zf_M_count at h
  refine zv_ild hB zd323_0 rfl rfl ?_
  refine zv_tsw hB zd323_1 rfl ?_
  refine ⟨fun hc1 => ⟨_, rfl, ?_⟩, fun hc1 => ?_⟩
  · replace hc1 : x1 = 0 := hc1
    rw [if_pos hc1] at h
    refine zv_ald hB zd323_60 rfl rfl rfl ?_
    refine zv_getr hB zd323_61 rfl ?_
    refine zv_con hB zd323_64 rfl ?_
    refine zv_iald hB zd323_67 rfl rfl (by decide) (by decide) (fun _ _ => ?_)
    have hw := Option.some.inj h
    subst hw
    exact hret _ _ _ _ _ zd323_68 (by trivial) ⟨rfl, rfl, rfl⟩
  replace hc1 : x1 ≠ 0 := hc1
  rw [if_neg hc1] at h
  refine ⟨fun hc2 => ⟨_, rfl, ?_⟩, fun hc2 => ?_⟩
  · replace hc2 : x1 = 1 := hc2
    rw [if_pos hc2] at h
    refine zv_ald hB zd323_69 rfl rfl rfl ?_
    refine zv_getr hB zd323_70 rfl ?_
    refine zv_con hB zd323_73 rfl ?_
    refine zv_iald hB zd323_76 rfl rfl (by decide) (by decide) (fun _ _ => ?_)
    have hw := Option.some.inj h
    subst hw
    exact hret _ _ _ _ _ zd323_77 (by trivial) ⟨rfl, rfl, rfl⟩
  replace hc2 : x1 ≠ 1 := hc2
  rw [if_neg hc2] at h
  refine ⟨fun hc3 => ⟨_, rfl, ?_⟩, fun hc3 => ?_⟩
  · replace hc3 : x1 = 2 := hc3
    rw [if_pos hc3] at h
    refine zv_ald hB zd323_78 rfl rfl rfl ?_
    refine zv_getr hB zd323_79 rfl ?_
    refine zv_con hB zd323_82 rfl ?_
    refine zv_iald hB zd323_85 rfl rfl (by decide) (by decide) (fun _ _ => ?_)
    have hw := Option.some.inj h
    subst hw
    exact hret _ _ _ _ _ zd323_86 (by trivial) ⟨rfl, rfl, rfl⟩
  replace hc3 : x1 ≠ 2 := hc3
  rw [if_neg hc3] at h
  refine ⟨fun hc4 => ⟨_, rfl, ?_⟩, fun hc4 => ?_⟩
  · replace hc4 : x1 = 3 := hc4
    rw [if_pos hc4] at h
    refine zv_ald hB zd323_87 rfl rfl rfl ?_
    refine zv_getr hB zd323_88 rfl ?_
    refine zv_con hB zd323_91 rfl ?_
    refine zv_iald hB zd323_93 rfl rfl (by decide) (by decide) (fun _ _ => ?_)
    have hw := Option.some.inj h
    subst hw
    exact hret _ _ _ _ _ zd323_94 (by trivial) ⟨rfl, rfl, rfl⟩
  replace hc4 : x1 ≠ 3 := hc4
  rw [if_neg hc4] at h
  refine ⟨fun hc5 => ⟨_, rfl, ?_⟩, fun hc5 => ?_⟩
  · replace hc5 : x1 = 4 := hc5
    rw [if_pos hc5] at h
    refine zv_ald hB zd323_95 rfl rfl rfl ?_
    refine zv_getr hB zd323_96 rfl ?_
    refine zv_con hB zd323_99 rfl ?_
    refine zv_iald hB zd323_101 rfl rfl (by decide) (by decide) (fun _ _ => ?_)
    have hw := Option.some.inj h
    subst hw
    exact hret _ _ _ _ _ zd323_102 (by trivial) ⟨rfl, rfl, rfl⟩
  replace hc5 : x1 ≠ 4 := hc5
  rw [if_neg hc5] at h
  refine ⟨fun hc6 => ⟨_, rfl, ?_⟩, fun hc6 => ?_⟩
  · replace hc6 : x1 = 5 := hc6
    rw [if_pos hc6] at h
    refine zv_ald hB zd323_103 rfl rfl rfl ?_
    refine zv_getf hB zd323_104 rfl rfl (fun _ _ => ?_)
    have hw := Option.some.inj h
    subst hw
    exact hret _ _ _ _ _ zd323_107 (by trivial) ⟨rfl, rfl, rfl⟩
  replace hc6 : x1 ≠ 5 := hc6
  rw [if_neg hc6] at h
  refine ⟨fun hc7 => ⟨_, rfl, ?_⟩, fun hc7 => ?_⟩
  · replace hc7 : x1 = 6 := hc7
    rw [if_pos hc7] at h
    refine zv_ald hB zd323_108 rfl rfl rfl ?_
    refine zv_getf hB zd323_109 rfl rfl (fun _ _ => ?_)
    have hw := Option.some.inj h
    subst hw
    exact hret _ _ _ _ _ zd323_112 (by trivial) ⟨rfl, rfl, rfl⟩
  replace hc7 : x1 ≠ 6 := hc7
  rw [if_neg hc7] at h
  refine ⟨fun hc8 => ⟨_, rfl, ?_⟩, fun hc8 => ?_⟩
  · replace hc8 : x1 = 7 := hc8
    rw [if_pos hc8] at h
    refine zv_ald hB zd323_113 rfl rfl rfl ?_
    refine zv_getf hB zd323_114 rfl rfl (fun _ _ => ?_)
    have hw := Option.some.inj h
    subst hw
    exact hret _ _ _ _ _ zd323_117 (by trivial) ⟨rfl, rfl, rfl⟩
  replace hc8 : x1 ≠ 7 := hc8
  rw [if_neg hc8] at h
  refine ⟨fun hc9 => ⟨_, rfl, ?_⟩, fun hc9 => ?_⟩
  · replace hc9 : x1 = 8 := hc9
    rw [if_pos hc9] at h
    refine zv_ald hB zd323_118 rfl rfl rfl ?_
    refine zv_getr hB zd323_119 rfl ?_
    refine zv_con hB zd323_122 rfl ?_
    refine zv_iald hB zd323_125 rfl rfl (by decide) (by decide) (fun _ _ => ?_)
    have hw := Option.some.inj h
    subst hw
    exact hret _ _ _ _ _ zd323_126 (by trivial) ⟨rfl, rfl, rfl⟩
  replace hc9 : x1 ≠ 8 := hc9
  rw [if_neg hc9] at h
  refine ⟨fun hc10 => ⟨_, rfl, ?_⟩, fun hc10 => ?_⟩
  · replace hc10 : x1 = 9 := hc10
    rw [if_pos hc10] at h
    refine zv_con hB zd323_127 rfl ?_
    refine zv_ald hB zd323_129 rfl rfl rfl ?_
    refine zv_getr hB zd323_130 rfl ?_
    refine zv_con hB zd323_133 rfl ?_
    refine zv_iald hB zd323_136 rfl rfl (by decide) (by decide) (fun _ _ => ?_)
    refine zv_mulw hB zd323_137 ?_
    refine zv_ald hB zd323_138 rfl rfl rfl ?_
    refine zv_getr hB zd323_139 rfl ?_
    refine zv_con hB zd323_142 rfl ?_
    refine zv_iald hB zd323_145 rfl rfl (by decide) (by decide) (fun _ _ => ?_)
    refine zv_addw hB zd323_146 ?_
    have hw := Option.some.inj h
    subst hw
    exact hret _ _ _ _ _ zd323_147 (by trivial) ⟨rfl, rfl, rfl⟩
  replace hc10 : x1 ≠ 9 := hc10
  rw [if_neg hc10] at h
  refine ⟨fun hc11 => ⟨_, rfl, ?_⟩, fun hc11 => ?_⟩
  · replace hc11 : x1 = 10 := hc11
    rw [if_pos hc11] at h
    refine zv_ald hB zd323_148 rfl rfl rfl ?_
    obtain ⟨r12, hr12, h⟩ := zi_bind h
    refine zv_cv hB (zv_emq (va2 := [.inr 0]) (F := [.inl f0, .inl f1, .inl f2]) (F' := [.inl f0, .inl f1, .inl f2]) (G := [g0]) (G' := [g0]) (ρ := [0, 1]) (φ := []) (ψ := [0]) [none, none, none] [some 0] zyw_M_landMany zyw_M_count zye_M_count (by decide +kernel) (zt_M_landMany hr12) trivial ⟨rfl, trivial⟩ rfl rfl rfl rfl rfl rfl rfl) zd323_149 zxt324 rfl (by decide) (by decide) rfl ?_
    have hw := Option.some.inj h
    subst hw
    exact hret _ _ _ _ _ zd323_152 (by trivial) ⟨rfl, rfl, rfl⟩
  replace hc11 : x1 ≠ 10 := hc11
  rw [if_neg hc11] at h
  refine ⟨_, rfl, ?_⟩
  refine zv_ild hB zd323_153 rfl rfl ?_
  refine zv_con hB zd323_154 rfl ?_
  refine zv_con hB zd323_156 rfl ?_
  obtain ⟨r13, hr13, h⟩ := zi_bind h
  refine zv_cs hB (zv_emq (va2 := [.inl x1, .inl 20, .inl 25]) (F := [.inl f0, .inl f1, .inl f2]) (F' := [.inl f0, .inl f1, .inl f2]) (G := [g0]) (G' := [g0]) (ρ := []) (φ := []) (ψ := []) [none, none, none] [none] zyw_M_in zyw_M_count zye_M_count (by decide +kernel) (zt_M_in hr13) trivial trivial rfl rfl rfl rfl rfl rfl rfl) zd323_158 zxt200 rfl (by decide) (by decide) rfl ?_
  refine zv_zeq hB zd323_161 rfl (fun hc14 => ?_) (fun hc14 => ?_)
  · rw [if_pos hc14] at h
    refine zv_con hB zd323_190 rfl ?_
    have hw := Option.some.inj h
    subst hw
    exact hret _ _ _ _ _ zd323_191 (by trivial) ⟨rfl, rfl, rfl⟩
  · rw [if_neg hc14] at h
    refine zv_ald hB zd323_164 rfl rfl rfl ?_
    refine zv_ild hB zd323_165 rfl rfl ?_
    refine zv_con hB zd323_166 rfl ?_
    refine zv_subw hB zd323_168 ?_
    obtain ⟨r15, hr15, h⟩ := zi_bind h
    refine zv_cv hB (zv_emq (va2 := [.inr 0, .inl (zi_w (x1 - 20))]) (F := [.inl f0, .inl f1, .inl f2]) (F' := [.inl f0, .inl f1, .inl f2]) (G := [g0]) (G' := [g0]) (ρ := [0, 1]) (φ := []) (ψ := [0]) [none, none, none] [some 0] zyw_M_isShip zyw_M_count zye_M_count (by decide +kernel) (zt_M_isShip hr15) trivial ⟨rfl, trivial⟩ rfl rfl rfl rfl rfl rfl rfl) zd323_169 zxt210 rfl (by decide) (by decide) rfl ?_
    refine zv_zeq hB zd323_172 rfl (fun hc16 => ?_) (fun hc16 => ?_)
    · rw [if_pos hc16] at h
      refine zv_con hB zd323_190 rfl ?_
      have hw := Option.some.inj h
      subst hw
      exact hret _ _ _ _ _ zd323_191 (by trivial) ⟨rfl, rfl, rfl⟩
    · rw [if_neg hc16] at h
      refine zv_ald hB zd323_175 rfl rfl rfl ?_
      refine zv_getr hB zd323_176 rfl ?_
      refine zv_con hB zd323_179 rfl ?_
      refine zv_ild hB zd323_181 rfl rfl ?_
      refine zv_addw hB zd323_182 ?_
      refine zv_con hB zd323_183 rfl ?_
      refine zv_subw hB zd323_185 ?_
      obtain ⟨c17, h⟩ := zi_if h
      refine zv_iald hB zd323_186 rfl rfl (zi_ix_ok c17).1 (zi_ix_ok c17).2 (fun _ _ => ?_)
      refine zv_goto hB zd323_187 rfl ?_
      have hw := Option.some.inj h
      subst hw
      exact hret _ _ _ _ _ zd323_191 (by trivial) ⟨rfl, rfl, rfl⟩
