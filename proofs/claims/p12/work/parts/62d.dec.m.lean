/-! 62d.dec, 62e.dec -/
section
/-! Methods as functions, and that they do what these do. -/
/-! M_mostLegs ()I -/
-- names: 0 StarTalesModel('arg', 0), 1 (0, 24)(0, 12, 28)
-- fields: f0 = 0.seen0_; arrays: g0 = 1; out: [('ret', None)]
abbrev zy_M_mostLegs : zNL := (2, [(0, 12)], [(0, 12, 27, 0)], [(0, 12, 28, 1)], [(1, 0, 24, 0)])
theorem zyw_M_mostLegs : zv_wf zy_M_mostLegs = true := by decide +kernel
theorem zye_M_mostLegs : zv_ek2 zy_M_mostLegs = true := by decide +kernel
def zf_M_mostLegs_l0_b (f0 : Int) (g0 : (Int → Int)) (rec : Int → Int → Option (Int)) (x1 : Int) (x2 : Int) : Option (Int) := if x2 < 24 then ((zf_M_has f0 x2).bind fun r2 => (if r2 = 0 then (rec x1 (zi_w (x2 + 1))) else (if x1 = (-1) then (rec x2 (zi_w (x2 + 1))) else (cond (zi_ix x2 24) ((zf_M_bits (g0 x2)).bind fun r6 => (cond (zi_ix x1 24) ((zf_M_bits (g0 x1)).bind fun r8 => (if r8 < r6 then (rec x2 (zi_w (x2 + 1))) else (rec x1 (zi_w (x2 + 1))))) none)) none)))) else (some x1)
def zf_M_mostLegs_l0 (f0 : Int) (g0 : (Int → Int)) : Nat → Int → Int → Option (Int)
  | 0, _, _ => none
  | n + 1, x1, x2 => zf_M_mostLegs_l0_b f0 g0 (zf_M_mostLegs_l0 f0 g0 n) x1 x2
def zf_M_mostLegs (f0 : Int) (g0 : (Int → Int)) : Option (Int) := (zf_M_mostLegs_l0 f0 g0 zi_fu (-1) 0).bind fun q10 => (some q10)
theorem zd259_0 : decode zxm259.2.1 0 = .ok (.iconst (-1), 1) := by decide +kernel
theorem zd259_1 : decode zxm259.2.1 1 = .ok (.istore_n 1, 1) := by decide +kernel
theorem zd259_2 : decode zxm259.2.1 2 = .ok (.iconst 0, 1) := by decide +kernel
theorem zd259_3 : decode zxm259.2.1 3 = .ok (.istore_n 2, 1) := by decide +kernel
theorem zd259_4 : decode zxm259.2.1 4 = .ok (.iload_n 2, 1) := by decide +kernel
theorem zd259_5 : decode zxm259.2.1 5 = .ok (.bipush 24, 2) := by decide +kernel
theorem zd259_7 : decode zxm259.2.1 7 = .ok (.if_icmp .ge 48, 3) := by decide +kernel
theorem zd259_10 : decode zxm259.2.1 10 = .ok (.aload_n 0, 1) := by decide +kernel
theorem zd259_11 : decode zxm259.2.1 11 = .ok (.getfield 303, 3) := by decide +kernel
theorem zd259_14 : decode zxm259.2.1 14 = .ok (.iload_n 2, 1) := by decide +kernel
theorem zd259_15 : decode zxm259.2.1 15 = .ok (.invokestatic 138, 3) := by decide +kernel
theorem zd259_18 : decode zxm259.2.1 18 = .ok (.ifCond .eq 31, 3) := by decide +kernel
theorem zd259_21 : decode zxm259.2.1 21 = .ok (.iload_n 1, 1) := by decide +kernel
theorem zd259_22 : decode zxm259.2.1 22 = .ok (.iconst (-1), 1) := by decide +kernel
theorem zd259_23 : decode zxm259.2.1 23 = .ok (.if_icmp .eq 24, 3) := by decide +kernel
theorem zd259_26 : decode zxm259.2.1 26 = .ok (.aload_n 0, 1) := by decide +kernel
theorem zd259_27 : decode zxm259.2.1 27 = .ok (.getfield 62, 3) := by decide +kernel
theorem zd259_30 : decode zxm259.2.1 30 = .ok (.iload_n 2, 1) := by decide +kernel
theorem zd259_31 : decode zxm259.2.1 31 = .ok (.iaload, 1) := by decide +kernel
theorem zd259_32 : decode zxm259.2.1 32 = .ok (.invokestatic 321, 3) := by decide +kernel
theorem zd259_35 : decode zxm259.2.1 35 = .ok (.aload_n 0, 1) := by decide +kernel
theorem zd259_36 : decode zxm259.2.1 36 = .ok (.getfield 62, 3) := by decide +kernel
theorem zd259_39 : decode zxm259.2.1 39 = .ok (.iload_n 1, 1) := by decide +kernel
theorem zd259_40 : decode zxm259.2.1 40 = .ok (.iaload, 1) := by decide +kernel
theorem zd259_41 : decode zxm259.2.1 41 = .ok (.invokestatic 321, 3) := by decide +kernel
theorem zd259_44 : decode zxm259.2.1 44 = .ok (.if_icmp .le 5, 3) := by decide +kernel
theorem zd259_47 : decode zxm259.2.1 47 = .ok (.iload_n 2, 1) := by decide +kernel
theorem zd259_48 : decode zxm259.2.1 48 = .ok (.istore_n 1, 1) := by decide +kernel
theorem zd259_49 : decode zxm259.2.1 49 = .ok (.iinc 2 1, 3) := by decide +kernel
theorem zd259_52 : decode zxm259.2.1 52 = .ok (.goto (-48), 3) := by decide +kernel
theorem zd259_55 : decode zxm259.2.1 55 = .ok (.iload_n 1, 1) := by decide +kernel
theorem zd259_56 : decode zxm259.2.1 56 = .ok (.ireturn, 1) := by decide +kernel
theorem zt_M_mostLegs {f0 : Int} {g0 : (Int → Int)} {o : Int} (h : zf_M_mostLegs f0 g0 = some o) : zv_Fn z_TB z_cl z_KX zy_M_mostLegs zxm259 (1, 60) [.inr 0] [.inl f0] [g0] (some o) [.inl f0] [g0] := zv_meth (K := (z_KF13, z_KC13, z_KL13, z_KT13, [], [], [], none)) (FT := z_FT) (MT := z_MT) (n := 1) zxp259 (z_ks13 _ (fun _ h => List.mem_cons_of_mem _ h) _ _ _ _ (fun j r h _ => by cases h)) (fun _ _ => zs_KX_p) zyw_M_mostLegs (fun va F G h => by obtain ⟨rfl, _⟩ := h; rfl) (fun va F G h => by obtain ⟨rfl, _⟩ := h; rfl) rfl fun good va F G hB hret hvret hP => by
  obtain ⟨rfl, rfl, rfl⟩ := hP
  have l0 : ∀ (n : Nat) (x1 : Int) (x2 : Int) (q : Int), zf_M_mostLegs_l0 f0 g0 n x1 x2 = some q → (good 55 [.inr 1000, .inl q, .inr 1000] [] [.inl f0] [g0]) → good 4 [.inr 0, .inl x1, .inl x2] [] [.inl f0] [g0] := by
    intro n
    induction n with
    | zero => intro x1 x2 q h; exact absurd (show none = some q from h) (fun h => by cases h)
    | succ n ih =>
      intro x1 x2 q h hK
      replace h : zf_M_mostLegs_l0_b f0 g0 (zf_M_mostLegs_l0 f0 g0 n) x1 x2 = some q := h
      unfold zf_M_mostLegs_l0_b at h
      refine zv_ild hB zd259_4 rfl rfl ?_
      refine zv_con hB zd259_5 rfl ?_
      refine zv_cge hB zd259_7 rfl (fun hc1 => ?_) (fun hc1 => ?_)
      · rw [if_neg (Int.not_lt.mpr hc1)] at h
        have hq := Option.some.inj h
        subst hq
        refine zv_wk hB (L' := [.inr 1000, .inl x1, .inr 1000]) (F' := [.inl f0]) ⟨fun (h : zv_is (.inr 1000)) => (Nat.lt_irrefl 1000 h).elim, fun _ => rfl, fun (h : zv_is (.inr 1000)) => (Nat.lt_irrefl 1000 h).elim, trivial⟩ ⟨fun _ => rfl, trivial⟩ ?_
        exact hK
      · rw [if_pos hc1] at h
        refine zv_ald hB zd259_10 rfl rfl rfl ?_
        refine zv_getf hB zd259_11 rfl rfl (fun _ _ => ?_)
        refine zv_ild hB zd259_14 rfl rfl ?_
        obtain ⟨r2, hr2, h⟩ := zi_bind h
        refine zv_cs hB (zv_emq (va2 := [.inl f0, .inl x2]) (F := [.inl f0]) (F' := [.inl f0]) (G := [g0]) (G' := [g0]) (ρ := []) (φ := []) (ψ := []) [none] [none] zyw_M_has zyw_M_mostLegs zye_M_mostLegs (by decide +kernel) (zt_M_has hr2) trivial trivial rfl rfl rfl rfl rfl rfl rfl) zd259_15 zxt204 rfl (by decide) (by decide) rfl ?_
        refine zv_zeq hB zd259_18 rfl (fun hc3 => ?_) (fun hc3 => ?_)
        · rw [if_pos hc3] at h
          refine zv_iincw hB zd259_49 rfl rfl ?_
          refine zv_goto hB zd259_52 rfl ?_
          exact ih _ _ q h hK
        · rw [if_neg hc3] at h
          refine zv_ild hB zd259_21 rfl rfl ?_
          refine zv_con hB zd259_22 rfl ?_
          refine zv_ceq hB zd259_23 rfl (fun hc4 => ?_) (fun hc4 => ?_)
          · rw [if_pos hc4] at h
            refine zv_ild hB zd259_47 rfl rfl ?_
            refine zv_ist hB zd259_48 rfl rfl rfl ?_
            refine zv_iincw hB zd259_49 rfl rfl ?_
            refine zv_goto hB zd259_52 rfl ?_
            exact ih _ _ q h hK
          · rw [if_neg hc4] at h
            refine zv_ald hB zd259_26 rfl rfl rfl ?_
            refine zv_getr hB zd259_27 rfl ?_
            refine zv_ild hB zd259_30 rfl rfl ?_
            obtain ⟨c5, h⟩ := zi_if h
            refine zv_iald hB zd259_31 rfl rfl (zi_ix_ok c5).1 (zi_ix_ok c5).2 (fun _ _ => ?_)
            obtain ⟨r6, hr6, h⟩ := zi_bind h
            refine zv_cs hB (zv_emq (va2 := [.inl (g0 x2)]) (F := [.inl f0]) (F' := [.inl f0]) (G := [g0]) (G' := [g0]) (ρ := []) (φ := []) (ψ := []) [none] [none] zyw_M_bits zyw_M_mostLegs zye_M_mostLegs (by decide +kernel) (zt_M_bits hr6) trivial trivial rfl rfl rfl rfl rfl rfl rfl) zd259_32 zxt257 rfl (by decide) (by decide) rfl ?_
            refine zv_ald hB zd259_35 rfl rfl rfl ?_
            refine zv_getr hB zd259_36 rfl ?_
            refine zv_ild hB zd259_39 rfl rfl ?_
            obtain ⟨c7, h⟩ := zi_if h
            refine zv_iald hB zd259_40 rfl rfl (zi_ix_ok c7).1 (zi_ix_ok c7).2 (fun _ _ => ?_)
            obtain ⟨r8, hr8, h⟩ := zi_bind h
            refine zv_cs hB (zv_emq (va2 := [.inl (g0 x1)]) (F := [.inl f0]) (F' := [.inl f0]) (G := [g0]) (G' := [g0]) (ρ := []) (φ := []) (ψ := []) [none] [none] zyw_M_bits zyw_M_mostLegs zye_M_mostLegs (by decide +kernel) (zt_M_bits hr8) trivial trivial rfl rfl rfl rfl rfl rfl rfl) zd259_41 zxt257 rfl (by decide) (by decide) rfl ?_
            refine zv_cle hB zd259_44 rfl (fun hc9 => ?_) (fun hc9 => ?_)
            · rw [if_neg (Int.not_lt.mpr hc9)] at h
              refine zv_iincw hB zd259_49 rfl rfl ?_
              refine zv_goto hB zd259_52 rfl ?_
              exact ih _ _ q h hK
            · rw [if_pos hc9] at h
              refine zv_ild hB zd259_47 rfl rfl ?_
              refine zv_ist hB zd259_48 rfl rfl rfl ?_
              refine zv_iincw hB zd259_49 rfl rfl ?_
              refine zv_goto hB zd259_52 rfl ?_
              exact ih _ _ q h hK
  unfold zf_M_mostLegs at h
  refine zv_con hB zd259_0 rfl ?_
  refine zv_ist hB zd259_1 rfl rfl rfl ?_
  refine zv_con hB zd259_2 rfl ?_
  refine zv_ist hB zd259_3 rfl rfl rfl ?_
  obtain ⟨q10, hq10, h⟩ := zi_bind h
  refine l0 _ _ _ q10 hq10 ?_
  show good 55 [.inr 1000, .inl q10, .inr 1000] [] [.inl f0] [g0]
  refine zv_ild hB zd259_55 rfl rfl ?_
  have hw := Option.some.inj h
  subst hw
  exact hret _ _ _ _ _ zd259_56 (by trivial) ⟨rfl, rfl, rfl⟩
/-! M_lineMany ()I -/
-- names: 0 StarTalesModel('arg', 0), 1 (0, 24)(0, 12, 28)
-- fields: ; arrays: g0 = 1; out: [('ret', None)]
abbrev zy_M_lineMany : zNL := (2, [(0, 12)], [], [(0, 12, 28, 1)], [(1, 0, 24, 0)])
theorem zyw_M_lineMany : zv_wf zy_M_lineMany = true := by decide +kernel
theorem zye_M_lineMany : zv_ek2 zy_M_lineMany = true := by decide +kernel
def zf_M_lineMany_l0_b (g0 : (Int → Int)) (rec : Int → Int → Option (Int)) (x1 : Int) (x2 : Int) : Option (Int) := if x2 < 24 then (cond (zi_ix x2 24) ((zf_M_bits (g0 x2)).bind fun r3 => (rec (zi_w (x1 + r3)) (zi_w (x2 + 1)))) none) else (some x1)
def zf_M_lineMany_l0 (g0 : (Int → Int)) : Nat → Int → Int → Option (Int)
  | 0, _, _ => none
  | n + 1, x1, x2 => zf_M_lineMany_l0_b g0 (zf_M_lineMany_l0 g0 n) x1 x2
def zf_M_lineMany (g0 : (Int → Int)) : Option (Int) := (zf_M_lineMany_l0 g0 zi_fu 0 0).bind fun q4 => (some (zi_div q4 2))
theorem zd260_0 : decode zxm260.2.1 0 = .ok (.iconst 0, 1) := by decide +kernel
theorem zd260_1 : decode zxm260.2.1 1 = .ok (.istore_n 1, 1) := by decide +kernel
theorem zd260_2 : decode zxm260.2.1 2 = .ok (.iconst 0, 1) := by decide +kernel
theorem zd260_3 : decode zxm260.2.1 3 = .ok (.istore_n 2, 1) := by decide +kernel
theorem zd260_4 : decode zxm260.2.1 4 = .ok (.iload_n 2, 1) := by decide +kernel
theorem zd260_5 : decode zxm260.2.1 5 = .ok (.bipush 24, 2) := by decide +kernel
theorem zd260_7 : decode zxm260.2.1 7 = .ok (.if_icmp .ge 21, 3) := by decide +kernel
theorem zd260_10 : decode zxm260.2.1 10 = .ok (.iload_n 1, 1) := by decide +kernel
theorem zd260_11 : decode zxm260.2.1 11 = .ok (.aload_n 0, 1) := by decide +kernel
theorem zd260_12 : decode zxm260.2.1 12 = .ok (.getfield 62, 3) := by decide +kernel
theorem zd260_15 : decode zxm260.2.1 15 = .ok (.iload_n 2, 1) := by decide +kernel
theorem zd260_16 : decode zxm260.2.1 16 = .ok (.iaload, 1) := by decide +kernel
theorem zd260_17 : decode zxm260.2.1 17 = .ok (.invokestatic 321, 3) := by decide +kernel
theorem zd260_20 : decode zxm260.2.1 20 = .ok (.iadd, 1) := by decide +kernel
theorem zd260_21 : decode zxm260.2.1 21 = .ok (.istore_n 1, 1) := by decide +kernel
theorem zd260_22 : decode zxm260.2.1 22 = .ok (.iinc 2 1, 3) := by decide +kernel
theorem zd260_25 : decode zxm260.2.1 25 = .ok (.goto (-21), 3) := by decide +kernel
theorem zd260_28 : decode zxm260.2.1 28 = .ok (.iload_n 1, 1) := by decide +kernel
theorem zd260_29 : decode zxm260.2.1 29 = .ok (.iconst 2, 1) := by decide +kernel
theorem zd260_30 : decode zxm260.2.1 30 = .ok (.idiv, 1) := by decide +kernel
theorem zd260_31 : decode zxm260.2.1 31 = .ok (.ireturn, 1) := by decide +kernel
theorem zt_M_lineMany {g0 : (Int → Int)} {o : Int} (h : zf_M_lineMany g0 = some o) : zv_Fn z_TB z_cl z_KX zy_M_lineMany zxm260 (1, 60) [.inr 0] [] [g0] (some o) [] [g0] := zv_meth (K := (z_KF13, z_KC13, z_KL13, z_KT13, [], [], [], none)) (FT := z_FT) (MT := z_MT) (n := 1) zxp260 (z_ks13 _ (fun _ h => List.mem_cons_of_mem _ h) _ _ _ _ (fun j r h _ => by cases h)) (fun _ _ => zs_KX_p) zyw_M_lineMany (fun va F G h => by obtain ⟨rfl, _⟩ := h; rfl) (fun va F G h => by obtain ⟨rfl, _⟩ := h; rfl) rfl fun good va F G hB hret hvret hP => by
  obtain ⟨rfl, rfl, rfl⟩ := hP
  have l0 : ∀ (n : Nat) (x1 : Int) (x2 : Int) (q : Int), zf_M_lineMany_l0 g0 n x1 x2 = some q → (good 28 [.inr 1000, .inl q, .inr 1000] [] [] [g0]) → good 4 [.inr 0, .inl x1, .inl x2] [] [] [g0] := by
    intro n
    induction n with
    | zero => intro x1 x2 q h; exact absurd (show none = some q from h) (fun h => by cases h)
    | succ n ih =>
      intro x1 x2 q h hK
      replace h : zf_M_lineMany_l0_b g0 (zf_M_lineMany_l0 g0 n) x1 x2 = some q := h
      unfold zf_M_lineMany_l0_b at h
      refine zv_ild hB zd260_4 rfl rfl ?_
      refine zv_con hB zd260_5 rfl ?_
      refine zv_cge hB zd260_7 rfl (fun hc1 => ?_) (fun hc1 => ?_)
      · rw [if_neg (Int.not_lt.mpr hc1)] at h
        have hq := Option.some.inj h
        subst hq
        refine zv_wk hB (L' := [.inr 1000, .inl x1, .inr 1000]) (F' := []) ⟨fun (h : zv_is (.inr 1000)) => (Nat.lt_irrefl 1000 h).elim, fun _ => rfl, fun (h : zv_is (.inr 1000)) => (Nat.lt_irrefl 1000 h).elim, trivial⟩ trivial ?_
        exact hK
      · rw [if_pos hc1] at h
        refine zv_ild hB zd260_10 rfl rfl ?_
        refine zv_ald hB zd260_11 rfl rfl rfl ?_
        refine zv_getr hB zd260_12 rfl ?_
        refine zv_ild hB zd260_15 rfl rfl ?_
        obtain ⟨c2, h⟩ := zi_if h
        refine zv_iald hB zd260_16 rfl rfl (zi_ix_ok c2).1 (zi_ix_ok c2).2 (fun _ _ => ?_)
        obtain ⟨r3, hr3, h⟩ := zi_bind h
        refine zv_cs hB (zv_emq (va2 := [.inl (g0 x2)]) (F := []) (F' := []) (G := [g0]) (G' := [g0]) (ρ := []) (φ := []) (ψ := []) [] [none] zyw_M_bits zyw_M_lineMany zye_M_lineMany (by decide +kernel) (zt_M_bits hr3) trivial trivial rfl rfl rfl rfl rfl rfl rfl) zd260_17 zxt257 rfl (by decide) (by decide) rfl ?_
        refine zv_addw hB zd260_20 ?_
        refine zv_ist hB zd260_21 rfl rfl rfl ?_
        refine zv_iincw hB zd260_22 rfl rfl ?_
        refine zv_goto hB zd260_25 rfl ?_
        exact ih _ _ q h hK
  unfold zf_M_lineMany at h
  refine zv_con hB zd260_0 rfl ?_
  refine zv_ist hB zd260_1 rfl rfl rfl ?_
  refine zv_con hB zd260_2 rfl ?_
  refine zv_ist hB zd260_3 rfl rfl rfl ?_
  obtain ⟨q4, hq4, h⟩ := zi_bind h
  refine l0 _ _ _ q4 hq4 ?_
  show good 28 [.inr 1000, .inl q4, .inr 1000] [] [] [g0]
  refine zv_ild hB zd260_28 rfl rfl ?_
  refine zv_con hB zd260_29 rfl ?_
  refine zv_divw hB zd260_30 (by decide) ?_
  have hw := Option.some.inj h
  subst hw
  exact hret _ _ _ _ _ zd260_31 (by trivial) ⟨rfl, rfl, rfl⟩
/-! M_holding ()I -/
-- names: 0 StarTalesModel('arg', 0), 1 (0, 24)(0, 12, 28)
-- fields: ; arrays: g0 = 1; out: [('ret', None), ('g', 0)]
abbrev zy_M_holding : zNL := (2, [(0, 12)], [], [(0, 12, 28, 1)], [(1, 0, 24, 0)])
theorem zyw_M_holding : zv_wf zy_M_holding = true := by decide +kernel
theorem zye_M_holding : zv_ek2 zy_M_holding = true := by decide +kernel
def zf_M_holding_l1_b (x2 : Int) (rec : Int → Int → (Int → Int) → Option (Int × (Int → Int))) (x1 : Int) (x3 : Int) (g0 : (Int → Int)) : Option (Int × (Int → Int)) := if x3 < 24 then (cond (zi_ix x2 24) ((zf_M_has (g0 x2) x3).bind fun r4 => (if r4 = 0 then (rec x1 (zi_w (x3 + 1)) g0) else (cond (zi_ix x3 24) ((zf_M_figureOf x2 (zv_up (zv_up g0 x2 (zi_and (g0 x2) (zi_xor (zi_shl 1 x3) (-1)))) x3 (zi_and ((zv_up g0 x2 (zi_and (g0 x2) (zi_xor (zi_shl 1 x3) (-1)))) x3) (zi_xor (zi_shl 1 x2) (-1))))).bind fun r7 => ((zf_M_has r7 x3).bind fun r8 => (if r8 = 0 then (rec (zi_w (x1 + 1)) (zi_w (x3 + 1)) (zv_up (zv_up (zv_up (zv_up g0 x2 (zi_and (g0 x2) (zi_xor (zi_shl 1 x3) (-1)))) x3 (zi_and ((zv_up g0 x2 (zi_and (g0 x2) (zi_xor (zi_shl 1 x3) (-1)))) x3) (zi_xor (zi_shl 1 x2) (-1)))) x2 (zi_or ((zv_up (zv_up g0 x2 (zi_and (g0 x2) (zi_xor (zi_shl 1 x3) (-1)))) x3 (zi_and ((zv_up g0 x2 (zi_and (g0 x2) (zi_xor (zi_shl 1 x3) (-1)))) x3) (zi_xor (zi_shl 1 x2) (-1)))) x2) (zi_shl 1 x3))) x3 (zi_or ((zv_up (zv_up (zv_up g0 x2 (zi_and (g0 x2) (zi_xor (zi_shl 1 x3) (-1)))) x3 (zi_and ((zv_up g0 x2 (zi_and (g0 x2) (zi_xor (zi_shl 1 x3) (-1)))) x3) (zi_xor (zi_shl 1 x2) (-1)))) x2 (zi_or ((zv_up (zv_up g0 x2 (zi_and (g0 x2) (zi_xor (zi_shl 1 x3) (-1)))) x3 (zi_and ((zv_up g0 x2 (zi_and (g0 x2) (zi_xor (zi_shl 1 x3) (-1)))) x3) (zi_xor (zi_shl 1 x2) (-1)))) x2) (zi_shl 1 x3))) x3) (zi_shl 1 x2)))) else (rec (zi_w (x1 + 0)) (zi_w (x3 + 1)) (zv_up (zv_up (zv_up (zv_up g0 x2 (zi_and (g0 x2) (zi_xor (zi_shl 1 x3) (-1)))) x3 (zi_and ((zv_up g0 x2 (zi_and (g0 x2) (zi_xor (zi_shl 1 x3) (-1)))) x3) (zi_xor (zi_shl 1 x2) (-1)))) x2 (zi_or ((zv_up (zv_up g0 x2 (zi_and (g0 x2) (zi_xor (zi_shl 1 x3) (-1)))) x3 (zi_and ((zv_up g0 x2 (zi_and (g0 x2) (zi_xor (zi_shl 1 x3) (-1)))) x3) (zi_xor (zi_shl 1 x2) (-1)))) x2) (zi_shl 1 x3))) x3 (zi_or ((zv_up (zv_up (zv_up g0 x2 (zi_and (g0 x2) (zi_xor (zi_shl 1 x3) (-1)))) x3 (zi_and ((zv_up g0 x2 (zi_and (g0 x2) (zi_xor (zi_shl 1 x3) (-1)))) x3) (zi_xor (zi_shl 1 x2) (-1)))) x2 (zi_or ((zv_up (zv_up g0 x2 (zi_and (g0 x2) (zi_xor (zi_shl 1 x3) (-1)))) x3 (zi_and ((zv_up g0 x2 (zi_and (g0 x2) (zi_xor (zi_shl 1 x3) (-1)))) x3) (zi_xor (zi_shl 1 x2) (-1)))) x2) (zi_shl 1 x3))) x3) (zi_shl 1 x2))))))) none))) none) else (some (x1, g0))
def zf_M_holding_l1 (x2 : Int) : Nat → Int → Int → (Int → Int) → Option (Int × (Int → Int))
  | 0, _, _, _ => none
  | n + 1, x1, x3, g0 => zf_M_holding_l1_b x2 (zf_M_holding_l1 x2 n) x1 x3 g0
def zf_M_holding_l0_b (rec : Int → Int → (Int → Int) → Option (Int × (Int → Int))) (x1 : Int) (x2 : Int) (g0 : (Int → Int)) : Option (Int × (Int → Int)) := if x2 < 24 then ((zf_M_holding_l1 x2 zi_fu x1 (zi_w (x2 + 1)) g0).bind fun q10 => (rec q10.1 (zi_w (x2 + 1)) q10.2)) else (some (x1, g0))
def zf_M_holding_l0 : Nat → Int → Int → (Int → Int) → Option (Int × (Int → Int))
  | 0, _, _, _ => none
  | n + 1, x1, x2, g0 => zf_M_holding_l0_b (zf_M_holding_l0 n) x1 x2 g0
def zf_M_holding (g0 : (Int → Int)) : Option (Int × (Int → Int)) := (zf_M_holding_l0 zi_fu 0 0 g0).bind fun q11 => (some (q11.1, q11.2))
theorem zd261_0 : decode zxm261.2.1 0 = .ok (.iconst 0, 1) := by decide +kernel
theorem zd261_1 : decode zxm261.2.1 1 = .ok (.istore_n 1, 1) := by decide +kernel
theorem zd261_2 : decode zxm261.2.1 2 = .ok (.iconst 0, 1) := by decide +kernel
theorem zd261_3 : decode zxm261.2.1 3 = .ok (.istore_n 2, 1) := by decide +kernel
theorem zd261_4 : decode zxm261.2.1 4 = .ok (.iload_n 2, 1) := by decide +kernel
theorem zd261_5 : decode zxm261.2.1 5 = .ok (.bipush 24, 2) := by decide +kernel
theorem zd261_7 : decode zxm261.2.1 7 = .ok (.if_icmp .ge 129, 3) := by decide +kernel
theorem zd261_10 : decode zxm261.2.1 10 = .ok (.iload_n 2, 1) := by decide +kernel
theorem zd261_11 : decode zxm261.2.1 11 = .ok (.iconst 1, 1) := by decide +kernel
theorem zd261_12 : decode zxm261.2.1 12 = .ok (.iadd, 1) := by decide +kernel
theorem zd261_13 : decode zxm261.2.1 13 = .ok (.istore_n 3, 1) := by decide +kernel
theorem zd261_14 : decode zxm261.2.1 14 = .ok (.iload_n 3, 1) := by decide +kernel
theorem zd261_15 : decode zxm261.2.1 15 = .ok (.bipush 24, 2) := by decide +kernel
theorem zd261_17 : decode zxm261.2.1 17 = .ok (.if_icmp .ge 113, 3) := by decide +kernel
theorem zd261_20 : decode zxm261.2.1 20 = .ok (.aload_n 0, 1) := by decide +kernel
theorem zd261_21 : decode zxm261.2.1 21 = .ok (.getfield 62, 3) := by decide +kernel
theorem zd261_24 : decode zxm261.2.1 24 = .ok (.iload_n 2, 1) := by decide +kernel
theorem zd261_25 : decode zxm261.2.1 25 = .ok (.iaload, 1) := by decide +kernel
theorem zd261_26 : decode zxm261.2.1 26 = .ok (.iload_n 3, 1) := by decide +kernel
theorem zd261_27 : decode zxm261.2.1 27 = .ok (.invokestatic 138, 3) := by decide +kernel
theorem zd261_30 : decode zxm261.2.1 30 = .ok (.ifCond .ne 6, 3) := by decide +kernel
theorem zd261_33 : decode zxm261.2.1 33 = .ok (.goto 91, 3) := by decide +kernel
theorem zd261_36 : decode zxm261.2.1 36 = .ok (.aload_n 0, 1) := by decide +kernel
theorem zd261_37 : decode zxm261.2.1 37 = .ok (.getfield 62, 3) := by decide +kernel
theorem zd261_40 : decode zxm261.2.1 40 = .ok (.iload_n 2, 1) := by decide +kernel
theorem zd261_41 : decode zxm261.2.1 41 = .ok (.aload_n 0, 1) := by decide +kernel
theorem zd261_42 : decode zxm261.2.1 42 = .ok (.getfield 62, 3) := by decide +kernel
theorem zd261_45 : decode zxm261.2.1 45 = .ok (.iload_n 2, 1) := by decide +kernel
theorem zd261_46 : decode zxm261.2.1 46 = .ok (.iaload, 1) := by decide +kernel
theorem zd261_47 : decode zxm261.2.1 47 = .ok (.iconst 1, 1) := by decide +kernel
theorem zd261_48 : decode zxm261.2.1 48 = .ok (.iload_n 3, 1) := by decide +kernel
theorem zd261_49 : decode zxm261.2.1 49 = .ok (.ishl, 1) := by decide +kernel
theorem zd261_50 : decode zxm261.2.1 50 = .ok (.iconst (-1), 1) := by decide +kernel
theorem zd261_51 : decode zxm261.2.1 51 = .ok (.ixor, 1) := by decide +kernel
theorem zd261_52 : decode zxm261.2.1 52 = .ok (.iand, 1) := by decide +kernel
theorem zd261_53 : decode zxm261.2.1 53 = .ok (.iastore, 1) := by decide +kernel
theorem zd261_54 : decode zxm261.2.1 54 = .ok (.aload_n 0, 1) := by decide +kernel
theorem zd261_55 : decode zxm261.2.1 55 = .ok (.getfield 62, 3) := by decide +kernel
theorem zd261_58 : decode zxm261.2.1 58 = .ok (.iload_n 3, 1) := by decide +kernel
theorem zd261_59 : decode zxm261.2.1 59 = .ok (.aload_n 0, 1) := by decide +kernel
theorem zd261_60 : decode zxm261.2.1 60 = .ok (.getfield 62, 3) := by decide +kernel
theorem zd261_63 : decode zxm261.2.1 63 = .ok (.iload_n 3, 1) := by decide +kernel
theorem zd261_64 : decode zxm261.2.1 64 = .ok (.iaload, 1) := by decide +kernel
theorem zd261_65 : decode zxm261.2.1 65 = .ok (.iconst 1, 1) := by decide +kernel
theorem zd261_66 : decode zxm261.2.1 66 = .ok (.iload_n 2, 1) := by decide +kernel
theorem zd261_67 : decode zxm261.2.1 67 = .ok (.ishl, 1) := by decide +kernel
theorem zd261_68 : decode zxm261.2.1 68 = .ok (.iconst (-1), 1) := by decide +kernel
theorem zd261_69 : decode zxm261.2.1 69 = .ok (.ixor, 1) := by decide +kernel
theorem zd261_70 : decode zxm261.2.1 70 = .ok (.iand, 1) := by decide +kernel
theorem zd261_71 : decode zxm261.2.1 71 = .ok (.iastore, 1) := by decide +kernel
theorem zd261_72 : decode zxm261.2.1 72 = .ok (.iload_n 1, 1) := by decide +kernel
theorem zd261_73 : decode zxm261.2.1 73 = .ok (.aload_n 0, 1) := by decide +kernel
theorem zd261_74 : decode zxm261.2.1 74 = .ok (.iload_n 2, 1) := by decide +kernel
theorem zd261_75 : decode zxm261.2.1 75 = .ok (.invokevirtual 318, 3) := by decide +kernel
theorem zd261_78 : decode zxm261.2.1 78 = .ok (.iload_n 3, 1) := by decide +kernel
theorem zd261_79 : decode zxm261.2.1 79 = .ok (.invokestatic 138, 3) := by decide +kernel
theorem zd261_82 : decode zxm261.2.1 82 = .ok (.ifCond .eq 7, 3) := by decide +kernel
theorem zd261_85 : decode zxm261.2.1 85 = .ok (.iconst 0, 1) := by decide +kernel
theorem zd261_86 : decode zxm261.2.1 86 = .ok (.goto 4, 3) := by decide +kernel
theorem zd261_89 : decode zxm261.2.1 89 = .ok (.iconst 1, 1) := by decide +kernel
theorem zd261_90 : decode zxm261.2.1 90 = .ok (.iadd, 1) := by decide +kernel
theorem zd261_91 : decode zxm261.2.1 91 = .ok (.istore_n 1, 1) := by decide +kernel
theorem zd261_92 : decode zxm261.2.1 92 = .ok (.aload_n 0, 1) := by decide +kernel
theorem zd261_93 : decode zxm261.2.1 93 = .ok (.getfield 62, 3) := by decide +kernel
theorem zd261_96 : decode zxm261.2.1 96 = .ok (.iload_n 2, 1) := by decide +kernel
theorem zd261_97 : decode zxm261.2.1 97 = .ok (.aload_n 0, 1) := by decide +kernel
theorem zd261_98 : decode zxm261.2.1 98 = .ok (.getfield 62, 3) := by decide +kernel
theorem zd261_101 : decode zxm261.2.1 101 = .ok (.iload_n 2, 1) := by decide +kernel
theorem zd261_102 : decode zxm261.2.1 102 = .ok (.iaload, 1) := by decide +kernel
theorem zd261_103 : decode zxm261.2.1 103 = .ok (.iconst 1, 1) := by decide +kernel
theorem zd261_104 : decode zxm261.2.1 104 = .ok (.iload_n 3, 1) := by decide +kernel
theorem zd261_105 : decode zxm261.2.1 105 = .ok (.ishl, 1) := by decide +kernel
theorem zd261_106 : decode zxm261.2.1 106 = .ok (.ior, 1) := by decide +kernel
theorem zd261_107 : decode zxm261.2.1 107 = .ok (.iastore, 1) := by decide +kernel
theorem zd261_108 : decode zxm261.2.1 108 = .ok (.aload_n 0, 1) := by decide +kernel
theorem zd261_109 : decode zxm261.2.1 109 = .ok (.getfield 62, 3) := by decide +kernel
theorem zd261_112 : decode zxm261.2.1 112 = .ok (.iload_n 3, 1) := by decide +kernel
theorem zd261_113 : decode zxm261.2.1 113 = .ok (.aload_n 0, 1) := by decide +kernel
theorem zd261_114 : decode zxm261.2.1 114 = .ok (.getfield 62, 3) := by decide +kernel
theorem zd261_117 : decode zxm261.2.1 117 = .ok (.iload_n 3, 1) := by decide +kernel
theorem zd261_118 : decode zxm261.2.1 118 = .ok (.iaload, 1) := by decide +kernel
theorem zd261_119 : decode zxm261.2.1 119 = .ok (.iconst 1, 1) := by decide +kernel
theorem zd261_120 : decode zxm261.2.1 120 = .ok (.iload_n 2, 1) := by decide +kernel
theorem zd261_121 : decode zxm261.2.1 121 = .ok (.ishl, 1) := by decide +kernel
theorem zd261_122 : decode zxm261.2.1 122 = .ok (.ior, 1) := by decide +kernel
theorem zd261_123 : decode zxm261.2.1 123 = .ok (.iastore, 1) := by decide +kernel
theorem zd261_124 : decode zxm261.2.1 124 = .ok (.iinc 3 1, 3) := by decide +kernel
theorem zd261_127 : decode zxm261.2.1 127 = .ok (.goto (-113), 3) := by decide +kernel
theorem zd261_130 : decode zxm261.2.1 130 = .ok (.iinc 2 1, 3) := by decide +kernel
theorem zd261_133 : decode zxm261.2.1 133 = .ok (.goto (-129), 3) := by decide +kernel
theorem zd261_136 : decode zxm261.2.1 136 = .ok (.iload_n 1, 1) := by decide +kernel
theorem zd261_137 : decode zxm261.2.1 137 = .ok (.ireturn, 1) := by decide +kernel
theorem zt_M_holding {g0 : (Int → Int)} {o : Int × (Int → Int)} (h : zf_M_holding g0 = some o) : zv_Fn z_TB z_cl z_KX zy_M_holding zxm261 (2, 120) [.inr 0] [] [g0] (some o.1) [] [o.2] := zv_meth (K := (z_KF13, z_KC13, z_KL13, z_KT13, [], [], [], none)) (FT := z_FT) (MT := z_MT) (n := 1) zxp261 (z_ks13 _ (fun _ h => List.mem_cons_of_mem _ h) _ _ _ _ (fun j r h _ => by cases h)) (fun _ _ => zs_KX_p) zyw_M_holding (fun va F G h => by obtain ⟨rfl, _⟩ := h; rfl) (fun va F G h => by obtain ⟨rfl, _⟩ := h; rfl) rfl fun good va F G hB hret hvret hP => by
  obtain ⟨rfl, rfl, rfl⟩ := hP
  have l1 : ∀ (n : Nat) (x1 : Int) (x2 : Int) (x3 : Int) (g0 : (Int → Int)) (q : Int × (Int → Int)), zf_M_holding_l1 x2 n x1 x3 g0 = some q → (good 130 [.inr 0, .inl q.1, .inl x2, .inr 1000] [] [] [q.2]) → good 14 [.inr 0, .inl x1, .inl x2, .inl x3] [] [] [g0] := by
    intro n
    induction n with
    | zero => intro x1 x2 x3 g0 q h; exact absurd (show none = some q from h) (fun h => by cases h)
    | succ n ih =>
      intro x1 x2 x3 g0 q h hK
      replace h : zf_M_holding_l1_b x2 (zf_M_holding_l1 x2 n) x1 x3 g0 = some q := h
      unfold zf_M_holding_l1_b at h
      refine zv_ild hB zd261_14 rfl rfl ?_
      refine zv_con hB zd261_15 rfl ?_
      refine zv_cge hB zd261_17 rfl (fun hc2 => ?_) (fun hc2 => ?_)
      · rw [if_neg (Int.not_lt.mpr hc2)] at h
        have hq := Option.some.inj h
        subst hq
        refine zv_wk hB (L' := [.inr 0, .inl x1, .inl x2, .inr 1000]) (F' := []) ⟨fun _ => rfl, fun _ => rfl, fun _ => rfl, fun (h : zv_is (.inr 1000)) => (Nat.lt_irrefl 1000 h).elim, trivial⟩ trivial ?_
        exact hK
      · rw [if_pos hc2] at h
        refine zv_ald hB zd261_20 rfl rfl rfl ?_
        refine zv_getr hB zd261_21 rfl ?_
        refine zv_ild hB zd261_24 rfl rfl ?_
        obtain ⟨c3, h⟩ := zi_if h
        refine zv_iald hB zd261_25 rfl rfl (zi_ix_ok c3).1 (zi_ix_ok c3).2 (fun _ _ => ?_)
        refine zv_ild hB zd261_26 rfl rfl ?_
        obtain ⟨r4, hr4, h⟩ := zi_bind h
        refine zv_cs hB (zv_emq (va2 := [.inl (g0 x2), .inl x3]) (F := []) (F' := []) (G := [g0]) (G' := [g0]) (ρ := []) (φ := []) (ψ := []) [] [none] zyw_M_has zyw_M_holding zye_M_holding (by decide +kernel) (zt_M_has hr4) trivial trivial rfl rfl rfl rfl rfl rfl rfl) zd261_27 zxt204 rfl (by decide) (by decide) rfl ?_
        refine zv_zne hB zd261_30 rfl (fun hc5 => ?_) (fun hc5 => ?_)
        · rw [if_neg hc5] at h
          refine zv_ald hB zd261_36 rfl rfl rfl ?_
          refine zv_getr hB zd261_37 rfl ?_
          refine zv_ild hB zd261_40 rfl rfl ?_
          refine zv_ald hB zd261_41 rfl rfl rfl ?_
          refine zv_getr hB zd261_42 rfl ?_
          refine zv_ild hB zd261_45 rfl rfl ?_
          refine zv_iald hB zd261_46 rfl rfl (zi_ix_ok c3).1 (zi_ix_ok c3).2 (fun _ _ => ?_)
          refine zv_con hB zd261_47 rfl ?_
          refine zv_ild hB zd261_48 rfl rfl ?_
          refine zv_shlw hB zd261_49 ?_
          refine zv_con hB zd261_50 rfl ?_
          refine zv_xorw hB zd261_51 ?_
          refine zv_andw hB zd261_52 ?_
          refine zv_iast hB zd261_53 rfl rfl (zi_ix_ok c3).1 (zi_ix_ok c3).2 ?_
          refine zv_ald hB zd261_54 rfl rfl rfl ?_
          refine zv_getr hB zd261_55 rfl ?_
          refine zv_ild hB zd261_58 rfl rfl ?_
          refine zv_ald hB zd261_59 rfl rfl rfl ?_
          refine zv_getr hB zd261_60 rfl ?_
          refine zv_ild hB zd261_63 rfl rfl ?_
          obtain ⟨c6, h⟩ := zi_if h
          refine zv_iald hB zd261_64 rfl rfl (zi_ix_ok c6).1 (zi_ix_ok c6).2 (fun _ _ => ?_)
          refine zv_con hB zd261_65 rfl ?_
          refine zv_ild hB zd261_66 rfl rfl ?_
          refine zv_shlw hB zd261_67 ?_
          refine zv_con hB zd261_68 rfl ?_
          refine zv_xorw hB zd261_69 ?_
          refine zv_andw hB zd261_70 ?_
          refine zv_iast hB zd261_71 rfl rfl (zi_ix_ok c6).1 (zi_ix_ok c6).2 ?_
          refine zv_ild hB zd261_72 rfl rfl ?_
          refine zv_ald hB zd261_73 rfl rfl rfl ?_
          refine zv_ild hB zd261_74 rfl rfl ?_
          obtain ⟨r7, hr7, h⟩ := zi_bind h
          refine zv_cv hB (zv_emq (va2 := [.inr 0, .inl x2]) (F := []) (F' := []) (G := [(zv_up (zv_up g0 x2 (zi_and (g0 x2) (zi_xor (zi_shl 1 x3) (-1)))) x3 (zi_and ((zv_up g0 x2 (zi_and (g0 x2) (zi_xor (zi_shl 1 x3) (-1)))) x3) (zi_xor (zi_shl 1 x2) (-1))))]) (G' := [(zv_up (zv_up g0 x2 (zi_and (g0 x2) (zi_xor (zi_shl 1 x3) (-1)))) x3 (zi_and ((zv_up g0 x2 (zi_and (g0 x2) (zi_xor (zi_shl 1 x3) (-1)))) x3) (zi_xor (zi_shl 1 x2) (-1))))]) (ρ := [0, 1]) (φ := []) (ψ := [0]) [] [some 0] zyw_M_figureOf zyw_M_holding zye_M_holding (by decide +kernel) (zt_M_figureOf hr7) trivial ⟨rfl, trivial⟩ rfl rfl rfl rfl rfl rfl rfl) zd261_75 zxt256 rfl (by decide) (by decide) rfl ?_
          refine zv_ild hB zd261_78 rfl rfl ?_
          obtain ⟨r8, hr8, h⟩ := zi_bind h
          refine zv_cs hB (zv_emq (va2 := [.inl r7, .inl x3]) (F := []) (F' := []) (G := [(zv_up (zv_up g0 x2 (zi_and (g0 x2) (zi_xor (zi_shl 1 x3) (-1)))) x3 (zi_and ((zv_up g0 x2 (zi_and (g0 x2) (zi_xor (zi_shl 1 x3) (-1)))) x3) (zi_xor (zi_shl 1 x2) (-1))))]) (G' := [(zv_up (zv_up g0 x2 (zi_and (g0 x2) (zi_xor (zi_shl 1 x3) (-1)))) x3 (zi_and ((zv_up g0 x2 (zi_and (g0 x2) (zi_xor (zi_shl 1 x3) (-1)))) x3) (zi_xor (zi_shl 1 x2) (-1))))]) (ρ := []) (φ := []) (ψ := []) [] [none] zyw_M_has zyw_M_holding zye_M_holding (by decide +kernel) (zt_M_has hr8) trivial trivial rfl rfl rfl rfl rfl rfl rfl) zd261_79 zxt204 rfl (by decide) (by decide) rfl ?_
          refine zv_zeq hB zd261_82 rfl (fun hc9 => ?_) (fun hc9 => ?_)
          · rw [if_pos hc9] at h
            refine zv_con hB zd261_89 rfl ?_
            refine zv_addw hB zd261_90 ?_
            refine zv_ist hB zd261_91 rfl rfl rfl ?_
            refine zv_ald hB zd261_92 rfl rfl rfl ?_
            refine zv_getr hB zd261_93 rfl ?_
            refine zv_ild hB zd261_96 rfl rfl ?_
            refine zv_ald hB zd261_97 rfl rfl rfl ?_
            refine zv_getr hB zd261_98 rfl ?_
            refine zv_ild hB zd261_101 rfl rfl ?_
            refine zv_iald hB zd261_102 rfl rfl (zi_ix_ok c3).1 (zi_ix_ok c3).2 (fun _ _ => ?_)
            refine zv_con hB zd261_103 rfl ?_
            refine zv_ild hB zd261_104 rfl rfl ?_
            refine zv_shlw hB zd261_105 ?_
            refine zv_orw hB zd261_106 ?_
            refine zv_iast hB zd261_107 rfl rfl (zi_ix_ok c3).1 (zi_ix_ok c3).2 ?_
            refine zv_ald hB zd261_108 rfl rfl rfl ?_
            refine zv_getr hB zd261_109 rfl ?_
            refine zv_ild hB zd261_112 rfl rfl ?_
            refine zv_ald hB zd261_113 rfl rfl rfl ?_
            refine zv_getr hB zd261_114 rfl ?_
            refine zv_ild hB zd261_117 rfl rfl ?_
            refine zv_iald hB zd261_118 rfl rfl (zi_ix_ok c6).1 (zi_ix_ok c6).2 (fun _ _ => ?_)
            refine zv_con hB zd261_119 rfl ?_
            refine zv_ild hB zd261_120 rfl rfl ?_
            refine zv_shlw hB zd261_121 ?_
            refine zv_orw hB zd261_122 ?_
            refine zv_iast hB zd261_123 rfl rfl (zi_ix_ok c6).1 (zi_ix_ok c6).2 ?_
            refine zv_iincw hB zd261_124 rfl rfl ?_
            refine zv_goto hB zd261_127 rfl ?_
            exact ih _ _ _ _ q h hK
          · rw [if_neg hc9] at h
            refine zv_con hB zd261_85 rfl ?_
            refine zv_goto hB zd261_86 rfl ?_
            refine zv_addw hB zd261_90 ?_
            refine zv_ist hB zd261_91 rfl rfl rfl ?_
            refine zv_ald hB zd261_92 rfl rfl rfl ?_
            refine zv_getr hB zd261_93 rfl ?_
            refine zv_ild hB zd261_96 rfl rfl ?_
            refine zv_ald hB zd261_97 rfl rfl rfl ?_
            refine zv_getr hB zd261_98 rfl ?_
            refine zv_ild hB zd261_101 rfl rfl ?_
            refine zv_iald hB zd261_102 rfl rfl (zi_ix_ok c3).1 (zi_ix_ok c3).2 (fun _ _ => ?_)
            refine zv_con hB zd261_103 rfl ?_
            refine zv_ild hB zd261_104 rfl rfl ?_
            refine zv_shlw hB zd261_105 ?_
            refine zv_orw hB zd261_106 ?_
            refine zv_iast hB zd261_107 rfl rfl (zi_ix_ok c3).1 (zi_ix_ok c3).2 ?_
            refine zv_ald hB zd261_108 rfl rfl rfl ?_
            refine zv_getr hB zd261_109 rfl ?_
            refine zv_ild hB zd261_112 rfl rfl ?_
            refine zv_ald hB zd261_113 rfl rfl rfl ?_
            refine zv_getr hB zd261_114 rfl ?_
            refine zv_ild hB zd261_117 rfl rfl ?_
            refine zv_iald hB zd261_118 rfl rfl (zi_ix_ok c6).1 (zi_ix_ok c6).2 (fun _ _ => ?_)
            refine zv_con hB zd261_119 rfl ?_
            refine zv_ild hB zd261_120 rfl rfl ?_
            refine zv_shlw hB zd261_121 ?_
            refine zv_orw hB zd261_122 ?_
            refine zv_iast hB zd261_123 rfl rfl (zi_ix_ok c6).1 (zi_ix_ok c6).2 ?_
            refine zv_iincw hB zd261_124 rfl rfl ?_
            refine zv_goto hB zd261_127 rfl ?_
            exact ih _ _ _ _ q h hK
        · rw [if_pos hc5] at h
          refine zv_goto hB zd261_33 rfl ?_
          refine zv_iincw hB zd261_124 rfl rfl ?_
          refine zv_goto hB zd261_127 rfl ?_
          exact ih _ _ _ _ q h hK
  have l0 : ∀ (n : Nat) (x1 : Int) (x2 : Int) (g0 : (Int → Int)) (q : Int × (Int → Int)), zf_M_holding_l0 n x1 x2 g0 = some q → (good 136 [.inr 1000, .inl q.1, .inr 1000, .inr 1000] [] [] [q.2]) → good 4 [.inr 0, .inl x1, .inl x2, .inr 1000] [] [] [g0] := by
    intro n
    induction n with
    | zero => intro x1 x2 g0 q h; exact absurd (show none = some q from h) (fun h => by cases h)
    | succ n ih =>
      intro x1 x2 g0 q h hK
      replace h : zf_M_holding_l0_b (zf_M_holding_l0 n) x1 x2 g0 = some q := h
      unfold zf_M_holding_l0_b at h
      refine zv_ild hB zd261_4 rfl rfl ?_
      refine zv_con hB zd261_5 rfl ?_
      refine zv_cge hB zd261_7 rfl (fun hc1 => ?_) (fun hc1 => ?_)
      · rw [if_neg (Int.not_lt.mpr hc1)] at h
        have hq := Option.some.inj h
        subst hq
        refine zv_wk hB (L' := [.inr 1000, .inl x1, .inr 1000, .inr 1000]) (F' := []) ⟨fun (h : zv_is (.inr 1000)) => (Nat.lt_irrefl 1000 h).elim, fun _ => rfl, fun (h : zv_is (.inr 1000)) => (Nat.lt_irrefl 1000 h).elim, fun (h : zv_is (.inr 1000)) => (Nat.lt_irrefl 1000 h).elim, trivial⟩ trivial ?_
        exact hK
      · rw [if_pos hc1] at h
        refine zv_ild hB zd261_10 rfl rfl ?_
        refine zv_con hB zd261_11 rfl ?_
        refine zv_addw hB zd261_12 ?_
        refine zv_ist hB zd261_13 rfl rfl rfl ?_
        obtain ⟨q10, hq10, h⟩ := zi_bind h
        refine l1 _ _ _ _ _ q10 hq10 ?_
        show good 130 [.inr 0, .inl q10.1, .inl x2, .inr 1000] [] [] [q10.2]
        refine zv_iincw hB zd261_130 rfl rfl ?_
        refine zv_goto hB zd261_133 rfl ?_
        exact ih _ _ _ q h hK
  unfold zf_M_holding at h
  refine zv_con hB zd261_0 rfl ?_
  refine zv_ist hB zd261_1 rfl rfl rfl ?_
  refine zv_con hB zd261_2 rfl ?_
  refine zv_ist hB zd261_3 rfl rfl rfl ?_
  obtain ⟨q11, hq11, h⟩ := zi_bind h
  refine l0 _ _ _ _ q11 hq11 ?_
  show good 136 [.inr 1000, .inl q11.1, .inr 1000, .inr 1000] [] [] [q11.2]
  refine zv_ild hB zd261_136 rfl rfl ?_
  have hw := Option.some.inj h
  subst hw
  exact hret _ _ _ _ _ zd261_137 (by trivial) ⟨rfl, rfl, rfl⟩
/-! M_sky (III)I -/
-- names: 0 StarTalesModel('arg', 0), 1 (0, 422)(0, 12, 0), 2 (0, 14)(0, 12, 21), 3 (0, 13)(0, 12, 26), 4 (0, 14)(0, 12, 23), 5 (0, 14)(0, 12, 24), 6 (0, 220)(0, 12, 20), 7 (0, 220)(0, 12, 25), 8 (0, 24)(0, 12, 28)
-- fields: f0 = 0.clauses_, f1 = 0.seen0_, f2 = 0.figures_, f3 = 0.largest_; arrays: g0 = 1, g1 = 2, g2 = 3, g3 = 4, g4 = 5, g5 = 6, g6 = 7, g7 = 8; out: [('ret', None), ('f', 1), ('f', 2), ('f', 3), ('g', 2), ('g', 6), ('g', 7)]
abbrev zy_M_sky : zNL := (9, [(0, 12)], [(0, 12, 13, 0), (0, 12, 27, 1), (0, 12, 29, 2), (0, 12, 30, 3)], [(0, 12, 0, 1), (0, 12, 21, 2), (0, 12, 26, 3), (0, 12, 23, 4), (0, 12, 24, 5), (0, 12, 20, 6), (0, 12, 25, 7), (0, 12, 28, 8)], [(1, 0, 422, 0), (2, 0, 14, 1), (3, 0, 13, 2), (4, 0, 14, 3), (5, 0, 14, 4), (6, 0, 220, 5), (7, 0, 220, 6), (8, 0, 24, 7)])
theorem zyw_M_sky : zv_wf zy_M_sky = true := by decide +kernel
theorem zye_M_sky : zv_ek2 zy_M_sky = true := by decide +kernel
def zf_M_sky (x1 : Int) (x2 : Int) (x3 : Int) (f0 : Int) (f1 : Int) (f2 : Int) (f3 : Int) (g0 : (Int → Int)) (g1 : (Int → Int)) (g2 : (Int → Int)) (g3 : (Int → Int)) (g4 : (Int → Int)) (g5 : (Int → Int)) (g6 : (Int → Int)) (g7 : (Int → Int)) : Option (Int × Int × Int × Int × (Int → Int) × (Int → Int) × (Int → Int)) := (zf_M_isPlace x1 x2).bind fun r1 => (if r1 = 0 then (some ((-1), f1, f2, f3, g2, g6, g7)) else ((zf_M_looks (zi_w ((zi_w (24 * x2)) + x1)) f0 f1 g0 g1 g2 g3 g4 g5 g6 g7).bind fun r3 => ((zf_M_laysFigures f2 f3 r3.1 r3.2.2.2).bind fun r4 => ((zf_M_mostLegs r3.1 r3.2.2.2).bind fun r5 => (if x3 = 0 then ((zf_M_lineMany r3.2.2.2).bind fun r7 => (some (r7, r3.1, r4.1, r4.2, r3.2.1, r3.2.2.1, r3.2.2.2))) else (if x3 = 1 then (some (r4.1, r3.1, r4.1, r4.2, r3.2.1, r3.2.2.1, r3.2.2.2)) else (if x3 = 2 then (some (r4.2, r3.1, r4.1, r4.2, r3.2.1, r3.2.2.1, r3.2.2.2)) else (if x3 = 3 then ((zf_M_lineMany r3.2.2.2).bind fun r11 => ((zf_M_bits r3.1).bind fun r12 => (some ((zi_w ((zi_w (r11 - r12)) + r4.1)), r3.1, r4.1, r4.2, r3.2.1, r3.2.2.1, r3.2.2.2)))) else (if x3 = 4 then ((zf_M_holding r3.2.2.2).bind fun r14 => (some (r14.1, r3.1, r4.1, r4.2, r3.2.1, r3.2.2.1, r14.2))) else (if x3 = 5 then (some (r5, r3.1, r4.1, r4.2, r3.2.1, r3.2.2.1, r3.2.2.2)) else (if x3 = 6 then (if r5 = (-1) then (some (0, r3.1, r4.1, r4.2, r3.2.1, r3.2.2.1, r3.2.2.2)) else (cond (zi_ix r5 24) ((zf_M_bits (r3.2.2.2 r5)).bind fun r19 => (some (r19, r3.1, r4.1, r4.2, r3.2.1, r3.2.2.1, r3.2.2.2))) none)) else (some ((-1), r3.1, r4.1, r4.2, r3.2.1, r3.2.2.1, r3.2.2.2)))))))))))))
theorem zd254_0 : decode zxm254.2.1 0 = .ok (.iload_n 1, 1) := by decide +kernel
theorem zd254_1 : decode zxm254.2.1 1 = .ok (.iload_n 2, 1) := by decide +kernel
theorem zd254_2 : decode zxm254.2.1 2 = .ok (.invokestatic 154, 3) := by decide +kernel
theorem zd254_5 : decode zxm254.2.1 5 = .ok (.ifCond .ne 5, 3) := by decide +kernel
theorem zd254_8 : decode zxm254.2.1 8 = .ok (.iconst (-1), 1) := by decide +kernel
theorem zd254_9 : decode zxm254.2.1 9 = .ok (.ireturn, 1) := by decide +kernel
theorem zd254_10 : decode zxm254.2.1 10 = .ok (.aload_n 0, 1) := by decide +kernel
theorem zd254_11 : decode zxm254.2.1 11 = .ok (.bipush 24, 2) := by decide +kernel
theorem zd254_13 : decode zxm254.2.1 13 = .ok (.iload_n 2, 1) := by decide +kernel
theorem zd254_14 : decode zxm254.2.1 14 = .ok (.imul, 1) := by decide +kernel
theorem zd254_15 : decode zxm254.2.1 15 = .ok (.iload_n 1, 1) := by decide +kernel
theorem zd254_16 : decode zxm254.2.1 16 = .ok (.iadd, 1) := by decide +kernel
theorem zd254_17 : decode zxm254.2.1 17 = .ok (.invokevirtual 309, 3) := by decide +kernel
theorem zd254_20 : decode zxm254.2.1 20 = .ok (.aload_n 0, 1) := by decide +kernel
theorem zd254_21 : decode zxm254.2.1 21 = .ok (.invokevirtual 327, 3) := by decide +kernel
theorem zd254_24 : decode zxm254.2.1 24 = .ok (.aload_n 0, 1) := by decide +kernel
theorem zd254_25 : decode zxm254.2.1 25 = .ok (.invokevirtual 330, 3) := by decide +kernel
theorem zd254_28 : decode zxm254.2.1 28 = .ok (.istore 4, 2) := by decide +kernel
theorem zd254_30 : decode zxm254.2.1 30 = .ok (.iload_n 3, 1) := by decide +kernel
theorem zd254_31 : decode zxm254.2.1 31 = .ok (.tableswitch 103 0 6 #[41, 46, 51, 56, 74, 79, 82], 41) := by decide +kernel
theorem zd254_72 : decode zxm254.2.1 72 = .ok (.aload_n 0, 1) := by decide +kernel
theorem zd254_73 : decode zxm254.2.1 73 = .ok (.invokevirtual 333, 3) := by decide +kernel
theorem zd254_76 : decode zxm254.2.1 76 = .ok (.ireturn, 1) := by decide +kernel
theorem zd254_77 : decode zxm254.2.1 77 = .ok (.aload_n 0, 1) := by decide +kernel
theorem zd254_78 : decode zxm254.2.1 78 = .ok (.getfield 312, 3) := by decide +kernel
theorem zd254_81 : decode zxm254.2.1 81 = .ok (.ireturn, 1) := by decide +kernel
theorem zd254_82 : decode zxm254.2.1 82 = .ok (.aload_n 0, 1) := by decide +kernel
theorem zd254_83 : decode zxm254.2.1 83 = .ok (.getfield 315, 3) := by decide +kernel
theorem zd254_86 : decode zxm254.2.1 86 = .ok (.ireturn, 1) := by decide +kernel
theorem zd254_87 : decode zxm254.2.1 87 = .ok (.aload_n 0, 1) := by decide +kernel
theorem zd254_88 : decode zxm254.2.1 88 = .ok (.invokevirtual 333, 3) := by decide +kernel
theorem zd254_91 : decode zxm254.2.1 91 = .ok (.aload_n 0, 1) := by decide +kernel
theorem zd254_92 : decode zxm254.2.1 92 = .ok (.getfield 303, 3) := by decide +kernel
theorem zd254_95 : decode zxm254.2.1 95 = .ok (.invokestatic 321, 3) := by decide +kernel
theorem zd254_98 : decode zxm254.2.1 98 = .ok (.isub, 1) := by decide +kernel
theorem zd254_99 : decode zxm254.2.1 99 = .ok (.aload_n 0, 1) := by decide +kernel
theorem zd254_100 : decode zxm254.2.1 100 = .ok (.getfield 312, 3) := by decide +kernel
theorem zd254_103 : decode zxm254.2.1 103 = .ok (.iadd, 1) := by decide +kernel
theorem zd254_104 : decode zxm254.2.1 104 = .ok (.ireturn, 1) := by decide +kernel
theorem zd254_105 : decode zxm254.2.1 105 = .ok (.aload_n 0, 1) := by decide +kernel
theorem zd254_106 : decode zxm254.2.1 106 = .ok (.invokevirtual 336, 3) := by decide +kernel
theorem zd254_109 : decode zxm254.2.1 109 = .ok (.ireturn, 1) := by decide +kernel
theorem zd254_110 : decode zxm254.2.1 110 = .ok (.iload 4, 2) := by decide +kernel
theorem zd254_112 : decode zxm254.2.1 112 = .ok (.ireturn, 1) := by decide +kernel
theorem zd254_113 : decode zxm254.2.1 113 = .ok (.iload 4, 2) := by decide +kernel
theorem zd254_115 : decode zxm254.2.1 115 = .ok (.iconst (-1), 1) := by decide +kernel
theorem zd254_116 : decode zxm254.2.1 116 = .ok (.if_icmp .ne 7, 3) := by decide +kernel
theorem zd254_119 : decode zxm254.2.1 119 = .ok (.iconst 0, 1) := by decide +kernel
theorem zd254_120 : decode zxm254.2.1 120 = .ok (.goto 13, 3) := by decide +kernel
theorem zd254_123 : decode zxm254.2.1 123 = .ok (.aload_n 0, 1) := by decide +kernel
theorem zd254_124 : decode zxm254.2.1 124 = .ok (.getfield 62, 3) := by decide +kernel
theorem zd254_127 : decode zxm254.2.1 127 = .ok (.iload 4, 2) := by decide +kernel
theorem zd254_129 : decode zxm254.2.1 129 = .ok (.iaload, 1) := by decide +kernel
theorem zd254_130 : decode zxm254.2.1 130 = .ok (.invokestatic 321, 3) := by decide +kernel
theorem zd254_133 : decode zxm254.2.1 133 = .ok (.ireturn, 1) := by decide +kernel
theorem zd254_134 : decode zxm254.2.1 134 = .ok (.iconst (-1), 1) := by decide +kernel
theorem zd254_135 : decode zxm254.2.1 135 = .ok (.ireturn, 1) := by decide +kernel
theorem zt_M_sky {x1 : Int} {x2 : Int} {x3 : Int} {f0 : Int} {f1 : Int} {f2 : Int} {f3 : Int} {g0 : (Int → Int)} {g1 : (Int → Int)} {g2 : (Int → Int)} {g3 : (Int → Int)} {g4 : (Int → Int)} {g5 : (Int → Int)} {g6 : (Int → Int)} {g7 : (Int → Int)} {o : Int × Int × Int × Int × (Int → Int) × (Int → Int) × (Int → Int)} (h : zf_M_sky x1 x2 x3 f0 f1 f2 f3 g0 g1 g2 g3 g4 g5 g6 g7 = some o) : zv_Fn z_TB z_cl z_KX zy_M_sky zxm254 (6, 360) [.inr 0, .inl x1, .inl x2, .inl x3] [.inl f0, .inl f1, .inl f2, .inl f3] [g0, g1, g2, g3, g4, g5, g6, g7] (some o.1) [.inl f0, .inl o.2.1, .inl o.2.2.1, .inl o.2.2.2.1] [g0, g1, o.2.2.2.2.1, g3, g4, g5, o.2.2.2.2.2.1, o.2.2.2.2.2.2] := zv_meth (K := (z_KF13, z_KC13, z_KL13, z_KT13, [], [], [], none)) (FT := z_FT) (MT := z_MT) (n := 4) zxp254 (z_ks13 _ (fun _ h => List.mem_cons_of_mem _ h) _ _ _ _ (fun j r h _ => by cases h)) (fun _ _ => zs_KX_p) zyw_M_sky (fun va F G h => by obtain ⟨rfl, _⟩ := h; rfl) (fun va F G h => by obtain ⟨rfl, _⟩ := h; rfl) rfl fun good va F G hB hret hvret hP => by
  obtain ⟨rfl, rfl, rfl⟩ := hP
  unfold zf_M_sky at h
  refine zv_ild hB zd254_0 rfl rfl ?_
  refine zv_ild hB zd254_1 rfl rfl ?_
  obtain ⟨r1, hr1, h⟩ := zi_bind h
  refine zv_cs hB (zv_emq (va2 := [.inl x1, .inl x2]) (F := [.inl f0, .inl f1, .inl f2, .inl f3]) (F' := [.inl f0, .inl f1, .inl f2, .inl f3]) (G := [g0, g1, g2, g3, g4, g5, g6, g7]) (G' := [g0, g1, g2, g3, g4, g5, g6, g7]) (ρ := []) (φ := []) (ψ := []) [none, none, none, none] [none, none, none, none, none, none, none, none] zyw_M_isPlace zyw_M_sky zye_M_sky (by decide +kernel) (zt_M_isPlace hr1) trivial trivial rfl rfl rfl rfl rfl rfl rfl) zd254_2 zxt201 rfl (by decide) (by decide) rfl ?_
  refine zv_zne hB zd254_5 rfl (fun hc2 => ?_) (fun hc2 => ?_)
  · rw [if_neg hc2] at h
    refine zv_ald hB zd254_10 rfl rfl rfl ?_
    refine zv_con hB zd254_11 rfl ?_
    refine zv_ild hB zd254_13 rfl rfl ?_
    refine zv_mulw hB zd254_14 ?_
    refine zv_ild hB zd254_15 rfl rfl ?_
    refine zv_addw hB zd254_16 ?_
    obtain ⟨r3, hr3, h⟩ := zi_bind h
    refine zv_cv hB (zv_emq (va2 := [.inr 0, .inl (zi_w ((zi_w (24 * x2)) + x1))]) (F := [.inl f0, .inl f1, .inl f2, .inl f3]) (F' := [.inl f0, .inl r3.1, .inl f2, .inl f3]) (G := [g0, g1, g2, g3, g4, g5, g6, g7]) (G' := [g0, g1, r3.2.1, g3, g4, g5, r3.2.2.1, r3.2.2.2]) (ρ := [0, 1, 2, 3, 4, 5, 6, 7, 8]) (φ := [0, 1]) (ψ := [0, 1, 2, 3, 4, 5, 6, 7]) [some 0, some 1, none, none] [some 0, some 1, some 2, some 3, some 4, some 5, some 6, some 7] zyw_M_looks zyw_M_sky zye_M_sky (by decide +kernel) (zt_M_looks hr3) ⟨⟨_, rfl, fun _ => rfl⟩, ⟨_, rfl, fun _ => rfl⟩, trivial⟩ ⟨rfl, rfl, rfl, rfl, rfl, rfl, rfl, rfl, trivial⟩ rfl rfl rfl rfl rfl rfl rfl) zd254_17 zxt252 rfl (by decide) (by decide) rfl ?_
    refine zv_ald hB zd254_20 rfl rfl rfl ?_
    obtain ⟨r4, hr4, h⟩ := zi_bind h
    refine zv_cv hB (zv_emq (va2 := [.inr 0]) (F := [.inl f0, .inl r3.1, .inl f2, .inl f3]) (F' := [.inl f0, .inl r3.1, .inl r4.1, .inl r4.2]) (G := [g0, g1, r3.2.1, g3, g4, g5, r3.2.2.1, r3.2.2.2]) (G' := [g0, g1, r3.2.1, g3, g4, g5, r3.2.2.1, r3.2.2.2]) (ρ := [0, 8]) (φ := [2, 3, 1]) (ψ := [7]) [none, some 2, some 0, some 1] [none, none, none, none, none, none, none, some 0] zyw_M_laysFigures zyw_M_sky zye_M_sky (by decide +kernel) (zt_M_laysFigures hr4) ⟨⟨_, rfl, fun _ => rfl⟩, ⟨_, rfl, fun _ => rfl⟩, ⟨_, rfl, fun _ => rfl⟩, trivial⟩ ⟨rfl, trivial⟩ rfl rfl rfl rfl rfl rfl rfl) zd254_21 zxt255 rfl (by decide) (by decide) rfl ?_
    refine zv_ald hB zd254_24 rfl rfl rfl ?_
    obtain ⟨r5, hr5, h⟩ := zi_bind h
    refine zv_cv hB (zv_emq (va2 := [.inr 0]) (F := [.inl f0, .inl r3.1, .inl r4.1, .inl r4.2]) (F' := [.inl f0, .inl r3.1, .inl r4.1, .inl r4.2]) (G := [g0, g1, r3.2.1, g3, g4, g5, r3.2.2.1, r3.2.2.2]) (G' := [g0, g1, r3.2.1, g3, g4, g5, r3.2.2.1, r3.2.2.2]) (ρ := [0, 8]) (φ := [1]) (ψ := [7]) [none, some 0, none, none] [none, none, none, none, none, none, none, some 0] zyw_M_mostLegs zyw_M_sky zye_M_sky (by decide +kernel) (zt_M_mostLegs hr5) ⟨⟨_, rfl, fun _ => rfl⟩, trivial⟩ ⟨rfl, trivial⟩ rfl rfl rfl rfl rfl rfl rfl) zd254_25 zxt259 rfl (by decide) (by decide) rfl ?_
    refine zv_ist hB zd254_28 rfl rfl rfl ?_
    refine zv_ild hB zd254_30 rfl rfl ?_
    refine zv_tsw hB zd254_31 rfl ?_
    refine ⟨fun hc6 => ⟨_, rfl, ?_⟩, fun hc6 => ?_⟩
    · replace hc6 : x3 = 0 := hc6
      rw [if_pos hc6] at h
      refine zv_ald hB zd254_72 rfl rfl rfl ?_
      obtain ⟨r7, hr7, h⟩ := zi_bind h
      refine zv_cv hB (zv_emq (va2 := [.inr 0]) (F := [.inl f0, .inl r3.1, .inl r4.1, .inl r4.2]) (F' := [.inl f0, .inl r3.1, .inl r4.1, .inl r4.2]) (G := [g0, g1, r3.2.1, g3, g4, g5, r3.2.2.1, r3.2.2.2]) (G' := [g0, g1, r3.2.1, g3, g4, g5, r3.2.2.1, r3.2.2.2]) (ρ := [0, 8]) (φ := []) (ψ := [7]) [none, none, none, none] [none, none, none, none, none, none, none, some 0] zyw_M_lineMany zyw_M_sky zye_M_sky (by decide +kernel) (zt_M_lineMany hr7) trivial ⟨rfl, trivial⟩ rfl rfl rfl rfl rfl rfl rfl) zd254_73 zxt260 rfl (by decide) (by decide) rfl ?_
      have hw := Option.some.inj h
      subst hw
      exact hret _ _ _ _ _ zd254_76 (by trivial) ⟨rfl, rfl, rfl⟩
    replace hc6 : x3 ≠ 0 := hc6
    rw [if_neg hc6] at h
    refine ⟨fun hc8 => ⟨_, rfl, ?_⟩, fun hc8 => ?_⟩
    · replace hc8 : x3 = 1 := hc8
      rw [if_pos hc8] at h
      refine zv_ald hB zd254_77 rfl rfl rfl ?_
      refine zv_getf hB zd254_78 rfl rfl (fun _ _ => ?_)
      have hw := Option.some.inj h
      subst hw
      exact hret _ _ _ _ _ zd254_81 (by trivial) ⟨rfl, rfl, rfl⟩
    replace hc8 : x3 ≠ 1 := hc8
    rw [if_neg hc8] at h
    refine ⟨fun hc9 => ⟨_, rfl, ?_⟩, fun hc9 => ?_⟩
    · replace hc9 : x3 = 2 := hc9
      rw [if_pos hc9] at h
      refine zv_ald hB zd254_82 rfl rfl rfl ?_
      refine zv_getf hB zd254_83 rfl rfl (fun _ _ => ?_)
      have hw := Option.some.inj h
      subst hw
      exact hret _ _ _ _ _ zd254_86 (by trivial) ⟨rfl, rfl, rfl⟩
    replace hc9 : x3 ≠ 2 := hc9
    rw [if_neg hc9] at h
    refine ⟨fun hc10 => ⟨_, rfl, ?_⟩, fun hc10 => ?_⟩
    · replace hc10 : x3 = 3 := hc10
      rw [if_pos hc10] at h
      refine zv_ald hB zd254_87 rfl rfl rfl ?_
      obtain ⟨r11, hr11, h⟩ := zi_bind h
      refine zv_cv hB (zv_emq (va2 := [.inr 0]) (F := [.inl f0, .inl r3.1, .inl r4.1, .inl r4.2]) (F' := [.inl f0, .inl r3.1, .inl r4.1, .inl r4.2]) (G := [g0, g1, r3.2.1, g3, g4, g5, r3.2.2.1, r3.2.2.2]) (G' := [g0, g1, r3.2.1, g3, g4, g5, r3.2.2.1, r3.2.2.2]) (ρ := [0, 8]) (φ := []) (ψ := [7]) [none, none, none, none] [none, none, none, none, none, none, none, some 0] zyw_M_lineMany zyw_M_sky zye_M_sky (by decide +kernel) (zt_M_lineMany hr11) trivial ⟨rfl, trivial⟩ rfl rfl rfl rfl rfl rfl rfl) zd254_88 zxt260 rfl (by decide) (by decide) rfl ?_
      refine zv_ald hB zd254_91 rfl rfl rfl ?_
      refine zv_getf hB zd254_92 rfl rfl (fun _ _ => ?_)
      obtain ⟨r12, hr12, h⟩ := zi_bind h
      refine zv_cs hB (zv_emq (va2 := [.inl r3.1]) (F := [.inl f0, .inl r3.1, .inl r4.1, .inl r4.2]) (F' := [.inl f0, .inl r3.1, .inl r4.1, .inl r4.2]) (G := [g0, g1, r3.2.1, g3, g4, g5, r3.2.2.1, r3.2.2.2]) (G' := [g0, g1, r3.2.1, g3, g4, g5, r3.2.2.1, r3.2.2.2]) (ρ := []) (φ := []) (ψ := []) [none, none, none, none] [none, none, none, none, none, none, none, none] zyw_M_bits zyw_M_sky zye_M_sky (by decide +kernel) (zt_M_bits hr12) trivial trivial rfl rfl rfl rfl rfl rfl rfl) zd254_95 zxt257 rfl (by decide) (by decide) rfl ?_
      refine zv_subw hB zd254_98 ?_
      refine zv_ald hB zd254_99 rfl rfl rfl ?_
      refine zv_getf hB zd254_100 rfl rfl (fun _ _ => ?_)
      refine zv_addw hB zd254_103 ?_
      have hw := Option.some.inj h
      subst hw
      exact hret _ _ _ _ _ zd254_104 (by trivial) ⟨rfl, rfl, rfl⟩
    replace hc10 : x3 ≠ 3 := hc10
    rw [if_neg hc10] at h
    refine ⟨fun hc13 => ⟨_, rfl, ?_⟩, fun hc13 => ?_⟩
    · replace hc13 : x3 = 4 := hc13
      rw [if_pos hc13] at h
      refine zv_ald hB zd254_105 rfl rfl rfl ?_
      obtain ⟨r14, hr14, h⟩ := zi_bind h
      refine zv_cv hB (zv_emq (va2 := [.inr 0]) (F := [.inl f0, .inl r3.1, .inl r4.1, .inl r4.2]) (F' := [.inl f0, .inl r3.1, .inl r4.1, .inl r4.2]) (G := [g0, g1, r3.2.1, g3, g4, g5, r3.2.2.1, r3.2.2.2]) (G' := [g0, g1, r3.2.1, g3, g4, g5, r3.2.2.1, r14.2]) (ρ := [0, 8]) (φ := []) (ψ := [7]) [none, none, none, none] [none, none, none, none, none, none, none, some 0] zyw_M_holding zyw_M_sky zye_M_sky (by decide +kernel) (zt_M_holding hr14) trivial ⟨rfl, trivial⟩ rfl rfl rfl rfl rfl rfl rfl) zd254_106 zxt261 rfl (by decide) (by decide) rfl ?_
      have hw := Option.some.inj h
      subst hw
      exact hret _ _ _ _ _ zd254_109 (by trivial) ⟨rfl, rfl, rfl⟩
    replace hc13 : x3 ≠ 4 := hc13
    rw [if_neg hc13] at h
    refine ⟨fun hc15 => ⟨_, rfl, ?_⟩, fun hc15 => ?_⟩
    · replace hc15 : x3 = 5 := hc15
      rw [if_pos hc15] at h
      refine zv_ild hB zd254_110 rfl rfl ?_
      have hw := Option.some.inj h
      subst hw
      exact hret _ _ _ _ _ zd254_112 (by trivial) ⟨rfl, rfl, rfl⟩
    replace hc15 : x3 ≠ 5 := hc15
    rw [if_neg hc15] at h
    refine ⟨fun hc16 => ⟨_, rfl, ?_⟩, fun hc16 => ?_⟩
    · replace hc16 : x3 = 6 := hc16
      rw [if_pos hc16] at h
      refine zv_ild hB zd254_113 rfl rfl ?_
      refine zv_con hB zd254_115 rfl ?_
      refine zv_cne hB zd254_116 rfl (fun hc17 => ?_) (fun hc17 => ?_)
      · rw [if_neg hc17] at h
        refine zv_ald hB zd254_123 rfl rfl rfl ?_
        refine zv_getr hB zd254_124 rfl ?_
        refine zv_ild hB zd254_127 rfl rfl ?_
        obtain ⟨c18, h⟩ := zi_if h
        refine zv_iald hB zd254_129 rfl rfl (zi_ix_ok c18).1 (zi_ix_ok c18).2 (fun _ _ => ?_)
        obtain ⟨r19, hr19, h⟩ := zi_bind h
        refine zv_cs hB (zv_emq (va2 := [.inl (r3.2.2.2 r5)]) (F := [.inl f0, .inl r3.1, .inl r4.1, .inl r4.2]) (F' := [.inl f0, .inl r3.1, .inl r4.1, .inl r4.2]) (G := [g0, g1, r3.2.1, g3, g4, g5, r3.2.2.1, r3.2.2.2]) (G' := [g0, g1, r3.2.1, g3, g4, g5, r3.2.2.1, r3.2.2.2]) (ρ := []) (φ := []) (ψ := []) [none, none, none, none] [none, none, none, none, none, none, none, none] zyw_M_bits zyw_M_sky zye_M_sky (by decide +kernel) (zt_M_bits hr19) trivial trivial rfl rfl rfl rfl rfl rfl rfl) zd254_130 zxt257 rfl (by decide) (by decide) rfl ?_
        have hw := Option.some.inj h
        subst hw
        exact hret _ _ _ _ _ zd254_133 (by trivial) ⟨rfl, rfl, rfl⟩
      · rw [if_pos hc17] at h
        refine zv_con hB zd254_119 rfl ?_
        refine zv_goto hB zd254_120 rfl ?_
        have hw := Option.some.inj h
        subst hw
        exact hret _ _ _ _ _ zd254_133 (by trivial) ⟨rfl, rfl, rfl⟩
    replace hc16 : x3 ≠ 6 := hc16
    rw [if_neg hc16] at h
    refine ⟨_, rfl, ?_⟩
    refine zv_con hB zd254_134 rfl ?_
    have hw := Option.some.inj h
    subst hw
    exact hret _ _ _ _ _ zd254_135 (by trivial) ⟨rfl, rfl, rfl⟩
  · rw [if_pos hc2] at h
    refine zv_con hB zd254_8 rfl ?_
    have hw := Option.some.inj h
    subst hw
    exact hret _ _ _ _ _ zd254_9 (by trivial) ⟨rfl, rfl, rfl⟩
/-! M_figure (III)I -/
-- names: 0 StarTalesModel('arg', 0), 1 (0, 422)(0, 12, 0), 2 (0, 14)(0, 12, 21), 3 (0, 13)(0, 12, 26), 4 (0, 14)(0, 12, 23), 5 (0, 14)(0, 12, 24), 6 (0, 220)(0, 12, 20), 7 (0, 220)(0, 12, 25), 8 (0, 24)(0, 12, 28)
-- fields: f0 = 0.clauses_, f1 = 0.seen0_; arrays: g0 = 1, g1 = 2, g2 = 3, g3 = 4, g4 = 5, g5 = 6, g6 = 7, g7 = 8; out: [('ret', None), ('f', 1), ('g', 2), ('g', 6), ('g', 7)]
abbrev zy_M_figure : zNL := (9, [(0, 12)], [(0, 12, 13, 0), (0, 12, 27, 1)], [(0, 12, 0, 1), (0, 12, 21, 2), (0, 12, 26, 3), (0, 12, 23, 4), (0, 12, 24, 5), (0, 12, 20, 6), (0, 12, 25, 7), (0, 12, 28, 8)], [(1, 0, 422, 0), (2, 0, 14, 1), (3, 0, 13, 2), (4, 0, 14, 3), (5, 0, 14, 4), (6, 0, 220, 5), (7, 0, 220, 6), (8, 0, 24, 7)])
theorem zyw_M_figure : zv_wf zy_M_figure = true := by decide +kernel
theorem zye_M_figure : zv_ek2 zy_M_figure = true := by decide +kernel
def zf_M_figure (x1 : Int) (x2 : Int) (x3 : Int) (f0 : Int) (f1 : Int) (g0 : (Int → Int)) (g1 : (Int → Int)) (g2 : (Int → Int)) (g3 : (Int → Int)) (g4 : (Int → Int)) (g5 : (Int → Int)) (g6 : (Int → Int)) (g7 : (Int → Int)) : Option (Int × Int × (Int → Int) × (Int → Int) × (Int → Int)) := (zf_M_isPlace x1 x2).bind fun r1 => (if r1 = 0 then (some ((-1), f1, g2, g6, g7)) else ((zf_M_isTold x3 g0).bind fun r3 => (if r3 = 0 then (some ((-1), f1, g2, g6, g7)) else ((zf_M_looks (zi_w ((zi_w (24 * x2)) + x1)) f0 f1 g0 g1 g2 g3 g4 g5 g6 g7).bind fun r5 => ((zf_M_has r5.1 x3).bind fun r6 => (if r6 = 0 then (some ((-2), r5.1, r5.2.1, r5.2.2.1, r5.2.2.2)) else ((zf_M_figureOf x3 r5.2.2.2).bind fun r8 => (some (r8, r5.1, r5.2.1, r5.2.2.1, r5.2.2.2)))))))))
theorem zd262_0 : decode zxm262.2.1 0 = .ok (.iload_n 1, 1) := by decide +kernel
theorem zd262_1 : decode zxm262.2.1 1 = .ok (.iload_n 2, 1) := by decide +kernel
theorem zd262_2 : decode zxm262.2.1 2 = .ok (.invokestatic 154, 3) := by decide +kernel
theorem zd262_5 : decode zxm262.2.1 5 = .ok (.ifCond .eq 11, 3) := by decide +kernel
theorem zd262_8 : decode zxm262.2.1 8 = .ok (.aload_n 0, 1) := by decide +kernel
theorem zd262_9 : decode zxm262.2.1 9 = .ok (.iload_n 3, 1) := by decide +kernel
theorem zd262_10 : decode zxm262.2.1 10 = .ok (.invokevirtual 157, 3) := by decide +kernel
theorem zd262_13 : decode zxm262.2.1 13 = .ok (.ifCond .ne 5, 3) := by decide +kernel
theorem zd262_16 : decode zxm262.2.1 16 = .ok (.iconst (-1), 1) := by decide +kernel
theorem zd262_17 : decode zxm262.2.1 17 = .ok (.ireturn, 1) := by decide +kernel
theorem zd262_18 : decode zxm262.2.1 18 = .ok (.aload_n 0, 1) := by decide +kernel
theorem zd262_19 : decode zxm262.2.1 19 = .ok (.bipush 24, 2) := by decide +kernel
theorem zd262_21 : decode zxm262.2.1 21 = .ok (.iload_n 2, 1) := by decide +kernel
theorem zd262_22 : decode zxm262.2.1 22 = .ok (.imul, 1) := by decide +kernel
theorem zd262_23 : decode zxm262.2.1 23 = .ok (.iload_n 1, 1) := by decide +kernel
theorem zd262_24 : decode zxm262.2.1 24 = .ok (.iadd, 1) := by decide +kernel
theorem zd262_25 : decode zxm262.2.1 25 = .ok (.invokevirtual 309, 3) := by decide +kernel
theorem zd262_28 : decode zxm262.2.1 28 = .ok (.aload_n 0, 1) := by decide +kernel
theorem zd262_29 : decode zxm262.2.1 29 = .ok (.getfield 303, 3) := by decide +kernel
theorem zd262_32 : decode zxm262.2.1 32 = .ok (.iload_n 3, 1) := by decide +kernel
theorem zd262_33 : decode zxm262.2.1 33 = .ok (.invokestatic 138, 3) := by decide +kernel
theorem zd262_36 : decode zxm262.2.1 36 = .ok (.ifCond .eq 11, 3) := by decide +kernel
theorem zd262_39 : decode zxm262.2.1 39 = .ok (.aload_n 0, 1) := by decide +kernel
theorem zd262_40 : decode zxm262.2.1 40 = .ok (.iload_n 3, 1) := by decide +kernel
theorem zd262_41 : decode zxm262.2.1 41 = .ok (.invokevirtual 318, 3) := by decide +kernel
theorem zd262_44 : decode zxm262.2.1 44 = .ok (.goto 5, 3) := by decide +kernel
theorem zd262_47 : decode zxm262.2.1 47 = .ok (.bipush (-2), 2) := by decide +kernel
theorem zd262_49 : decode zxm262.2.1 49 = .ok (.ireturn, 1) := by decide +kernel
theorem zt_M_figure {x1 : Int} {x2 : Int} {x3 : Int} {f0 : Int} {f1 : Int} {g0 : (Int → Int)} {g1 : (Int → Int)} {g2 : (Int → Int)} {g3 : (Int → Int)} {g4 : (Int → Int)} {g5 : (Int → Int)} {g6 : (Int → Int)} {g7 : (Int → Int)} {o : Int × Int × (Int → Int) × (Int → Int) × (Int → Int)} (h : zf_M_figure x1 x2 x3 f0 f1 g0 g1 g2 g3 g4 g5 g6 g7 = some o) : zv_Fn z_TB z_cl z_KX zy_M_figure zxm262 (6, 360) [.inr 0, .inl x1, .inl x2, .inl x3] [.inl f0, .inl f1] [g0, g1, g2, g3, g4, g5, g6, g7] (some o.1) [.inl f0, .inl o.2.1] [g0, g1, o.2.2.1, g3, g4, g5, o.2.2.2.1, o.2.2.2.2] := zv_meth (K := (z_KF13, z_KC13, z_KL13, z_KT13, [], [], [], none)) (FT := z_FT) (MT := z_MT) (n := 4) zxp262 (z_ks13 _ (fun _ h => List.mem_cons_of_mem _ h) _ _ _ _ (fun j r h _ => by cases h)) (fun _ _ => zs_KX_p) zyw_M_figure (fun va F G h => by obtain ⟨rfl, _⟩ := h; rfl) (fun va F G h => by obtain ⟨rfl, _⟩ := h; rfl) rfl fun good va F G hB hret hvret hP => by
  obtain ⟨rfl, rfl, rfl⟩ := hP
  unfold zf_M_figure at h
  refine zv_ild hB zd262_0 rfl rfl ?_
  refine zv_ild hB zd262_1 rfl rfl ?_
  obtain ⟨r1, hr1, h⟩ := zi_bind h
  refine zv_cs hB (zv_emq (va2 := [.inl x1, .inl x2]) (F := [.inl f0, .inl f1]) (F' := [.inl f0, .inl f1]) (G := [g0, g1, g2, g3, g4, g5, g6, g7]) (G' := [g0, g1, g2, g3, g4, g5, g6, g7]) (ρ := []) (φ := []) (ψ := []) [none, none] [none, none, none, none, none, none, none, none] zyw_M_isPlace zyw_M_figure zye_M_figure (by decide +kernel) (zt_M_isPlace hr1) trivial trivial rfl rfl rfl rfl rfl rfl rfl) zd262_2 zxt201 rfl (by decide) (by decide) rfl ?_
  refine zv_zeq hB zd262_5 rfl (fun hc2 => ?_) (fun hc2 => ?_)
  · rw [if_pos hc2] at h
    refine zv_con hB zd262_16 rfl ?_
    have hw := Option.some.inj h
    subst hw
    exact hret _ _ _ _ _ zd262_17 (by trivial) ⟨rfl, rfl, rfl⟩
  · rw [if_neg hc2] at h
    refine zv_ald hB zd262_8 rfl rfl rfl ?_
    refine zv_ild hB zd262_9 rfl rfl ?_
    obtain ⟨r3, hr3, h⟩ := zi_bind h
    refine zv_cv hB (zv_emq (va2 := [.inr 0, .inl x3]) (F := [.inl f0, .inl f1]) (F' := [.inl f0, .inl f1]) (G := [g0, g1, g2, g3, g4, g5, g6, g7]) (G' := [g0, g1, g2, g3, g4, g5, g6, g7]) (ρ := [0, 1]) (φ := []) (ψ := [0]) [none, none] [some 0, none, none, none, none, none, none, none] zyw_M_isTold zyw_M_figure zye_M_figure (by decide +kernel) (zt_M_isTold hr3) trivial ⟨rfl, trivial⟩ rfl rfl rfl rfl rfl rfl rfl) zd262_10 zxt203 rfl (by decide) (by decide) rfl ?_
    refine zv_zne hB zd262_13 rfl (fun hc4 => ?_) (fun hc4 => ?_)
    · rw [if_neg hc4] at h
      refine zv_ald hB zd262_18 rfl rfl rfl ?_
      refine zv_con hB zd262_19 rfl ?_
      refine zv_ild hB zd262_21 rfl rfl ?_
      refine zv_mulw hB zd262_22 ?_
      refine zv_ild hB zd262_23 rfl rfl ?_
      refine zv_addw hB zd262_24 ?_
      obtain ⟨r5, hr5, h⟩ := zi_bind h
      refine zv_cv hB (zv_emq (va2 := [.inr 0, .inl (zi_w ((zi_w (24 * x2)) + x1))]) (F := [.inl f0, .inl f1]) (F' := [.inl f0, .inl r5.1]) (G := [g0, g1, g2, g3, g4, g5, g6, g7]) (G' := [g0, g1, r5.2.1, g3, g4, g5, r5.2.2.1, r5.2.2.2]) (ρ := [0, 1, 2, 3, 4, 5, 6, 7, 8]) (φ := [0, 1]) (ψ := [0, 1, 2, 3, 4, 5, 6, 7]) [some 0, some 1] [some 0, some 1, some 2, some 3, some 4, some 5, some 6, some 7] zyw_M_looks zyw_M_figure zye_M_figure (by decide +kernel) (zt_M_looks hr5) ⟨⟨_, rfl, fun _ => rfl⟩, ⟨_, rfl, fun _ => rfl⟩, trivial⟩ ⟨rfl, rfl, rfl, rfl, rfl, rfl, rfl, rfl, trivial⟩ rfl rfl rfl rfl rfl rfl rfl) zd262_25 zxt252 rfl (by decide) (by decide) rfl ?_
      refine zv_ald hB zd262_28 rfl rfl rfl ?_
      refine zv_getf hB zd262_29 rfl rfl (fun _ _ => ?_)
      refine zv_ild hB zd262_32 rfl rfl ?_
      obtain ⟨r6, hr6, h⟩ := zi_bind h
      refine zv_cs hB (zv_emq (va2 := [.inl r5.1, .inl x3]) (F := [.inl f0, .inl r5.1]) (F' := [.inl f0, .inl r5.1]) (G := [g0, g1, r5.2.1, g3, g4, g5, r5.2.2.1, r5.2.2.2]) (G' := [g0, g1, r5.2.1, g3, g4, g5, r5.2.2.1, r5.2.2.2]) (ρ := []) (φ := []) (ψ := []) [none, none] [none, none, none, none, none, none, none, none] zyw_M_has zyw_M_figure zye_M_figure (by decide +kernel) (zt_M_has hr6) trivial trivial rfl rfl rfl rfl rfl rfl rfl) zd262_33 zxt204 rfl (by decide) (by decide) rfl ?_
      refine zv_zeq hB zd262_36 rfl (fun hc7 => ?_) (fun hc7 => ?_)
      · rw [if_pos hc7] at h
        refine zv_con hB zd262_47 rfl ?_
        have hw := Option.some.inj h
        subst hw
        exact hret _ _ _ _ _ zd262_49 (by trivial) ⟨rfl, rfl, rfl⟩
      · rw [if_neg hc7] at h
        refine zv_ald hB zd262_39 rfl rfl rfl ?_
        refine zv_ild hB zd262_40 rfl rfl ?_
        obtain ⟨r8, hr8, h⟩ := zi_bind h
        refine zv_cv hB (zv_emq (va2 := [.inr 0, .inl x3]) (F := [.inl f0, .inl r5.1]) (F' := [.inl f0, .inl r5.1]) (G := [g0, g1, r5.2.1, g3, g4, g5, r5.2.2.1, r5.2.2.2]) (G' := [g0, g1, r5.2.1, g3, g4, g5, r5.2.2.1, r5.2.2.2]) (ρ := [0, 8]) (φ := []) (ψ := [7]) [none, none] [none, none, none, none, none, none, none, some 0] zyw_M_figureOf zyw_M_figure zye_M_figure (by decide +kernel) (zt_M_figureOf hr8) trivial ⟨rfl, trivial⟩ rfl rfl rfl rfl rfl rfl rfl) zd262_41 zxt256 rfl (by decide) (by decide) rfl ?_
        refine zv_goto hB zd262_44 rfl ?_
        have hw := Option.some.inj h
        subst hw
        exact hret _ _ _ _ _ zd262_49 (by trivial) ⟨rfl, rfl, rfl⟩
    · rw [if_pos hc4] at h
      refine zv_con hB zd262_16 rfl ?_
      have hw := Option.some.inj h
      subst hw
      exact hret _ _ _ _ _ zd262_17 (by trivial) ⟨rfl, rfl, rfl⟩
/-! M_isName ()Z -/
-- names: 0 StarTalesModel('arg', 0), 1 (1, 220)(0, 12, 3)
-- fields: f0 = 0.place0_, f1 = 0.length0_; arrays: g0 = 1; out: [('ret', None)]
abbrev zy_M_isName : zNL := (2, [(0, 12)], [(0, 12, 5, 0), (0, 12, 6, 1)], [(0, 12, 3, 1)], [(1, 1, 220, 0)])
theorem zyw_M_isName : zv_wf zy_M_isName = true := by decide +kernel
theorem zye_M_isName : zv_ek2 zy_M_isName = true := by decide +kernel
def zf_M_isName (f0 : Int) (f1 : Int) (g0 : (Int → Int)) : Option (Int) := (zf_M_here f0 f1 g0).bind fun r1 => ((zf_M_in r1 65 72).bind fun r2 => (cond (zi_bo r2) (some r2) none))
theorem zd265_0 : decode zxm265.2.1 0 = .ok (.aload_n 0, 1) := by decide +kernel
theorem zd265_1 : decode zxm265.2.1 1 = .ok (.invokevirtual 182, 3) := by decide +kernel
theorem zd265_4 : decode zxm265.2.1 4 = .ok (.bipush 65, 2) := by decide +kernel
theorem zd265_6 : decode zxm265.2.1 6 = .ok (.bipush 72, 2) := by decide +kernel
theorem zd265_8 : decode zxm265.2.1 8 = .ok (.invokestatic 150, 3) := by decide +kernel
theorem zd265_11 : decode zxm265.2.1 11 = .ok (.ireturn, 1) := by decide +kernel
theorem zt_M_isName {f0 : Int} {f1 : Int} {g0 : (Int → Int)} {o : Int} (h : zf_M_isName f0 f1 g0 = some o) : zv_Fn z_TB z_cl z_KX zy_M_isName zxm265 (1, 60) [.inr 0] [.inl f0, .inl f1] [g0] (some o) [.inl f0, .inl f1] [g0] := zv_meth (K := (z_KF13, z_KC13, z_KL13, z_KT13, [], [], [], none)) (FT := z_FT) (MT := z_MT) (n := 1) zxp265 (z_ks13 _ (fun _ h => List.mem_cons_of_mem _ h) _ _ _ _ (fun j r h _ => by cases h)) (fun _ _ => zs_KX_p) zyw_M_isName (fun va F G h => by obtain ⟨rfl, _⟩ := h; rfl) (fun va F G h => by obtain ⟨rfl, _⟩ := h; rfl) rfl fun good va F G hB hret hvret hP => by
  obtain ⟨rfl, rfl, rfl⟩ := hP
  unfold zf_M_isName at h
  refine zv_ald hB zd265_0 rfl rfl rfl ?_
  obtain ⟨r1, hr1, h⟩ := zi_bind h
  refine zv_cv hB (zv_emq (va2 := [.inr 0]) (F := [.inl f0, .inl f1]) (F' := [.inl f0, .inl f1]) (G := [g0]) (G' := [g0]) (ρ := [0, 1]) (φ := [0, 1]) (ψ := [0]) [some 0, some 1] [some 0] zyw_M_here zyw_M_isName zye_M_isName (by decide +kernel) (zt_M_here hr1) ⟨⟨_, rfl, fun _ => rfl⟩, ⟨_, rfl, fun _ => rfl⟩, trivial⟩ ⟨rfl, trivial⟩ rfl rfl rfl rfl rfl rfl rfl) zd265_1 zxt217 rfl (by decide) (by decide) rfl ?_
  refine zv_con hB zd265_4 rfl ?_
  refine zv_con hB zd265_6 rfl ?_
  obtain ⟨r2, hr2, h⟩ := zi_bind h
  refine zv_cs hB (zv_emq (va2 := [.inl r1, .inl 65, .inl 72]) (F := [.inl f0, .inl f1]) (F' := [.inl f0, .inl f1]) (G := [g0]) (G' := [g0]) (ρ := []) (φ := []) (ψ := []) [none, none] [none] zyw_M_in zyw_M_isName zye_M_isName (by decide +kernel) (zt_M_in hr2) trivial trivial rfl rfl rfl rfl rfl rfl rfl) zd265_8 zxt200 rfl (by decide) (by decide) rfl ?_
  obtain ⟨c3, h⟩ := zi_if h
  have hw := Option.some.inj h
  subst hw
  exact hret _ _ _ _ _ zd265_11 (zi_bo_ok c3) ⟨rfl, rfl, rfl⟩
end
section
/-! Methods as functions, and that they do what these do. -/
/-! M_isTwice (II)Z -/
-- names: 0 StarTalesModel('arg', 0), 1 (0, 12)(0, 12, 36), 2 (0, 12)(0, 12, 37)
-- fields: f0 = 0.newLines_; arrays: g0 = 1, g1 = 2; out: [('ret', None)]
abbrev zy_M_isTwice : zNL := (3, [(0, 12)], [(0, 12, 32, 0)], [(0, 12, 36, 1), (0, 12, 37, 2)], [(1, 0, 12, 0), (2, 0, 12, 1)])
theorem zyw_M_isTwice : zv_wf zy_M_isTwice = true := by decide +kernel
theorem zye_M_isTwice : zv_ek2 zy_M_isTwice = true := by decide +kernel
def zf_M_isTwice_l0_b (x1 : Int) (x2 : Int) (f0 : Int) (g0 : (Int → Int)) (g1 : (Int → Int)) (rec : Int → Option (((Unit) ⊕ (Int)))) (x3 : Int) : Option (((Unit) ⊕ (Int))) := if x3 < f0 then (cond (zi_ix x3 12) (if (g0 x3) = x1 then (if (g1 x3) = x2 then (some (.inr 1)) else (if (g0 x3) = x2 then (if (g1 x3) = x1 then (some (.inr 1)) else (rec (zi_w (x3 + 1)))) else (rec (zi_w (x3 + 1))))) else (if (g0 x3) = x2 then (if (g1 x3) = x1 then (some (.inr 1)) else (rec (zi_w (x3 + 1)))) else (rec (zi_w (x3 + 1))))) none) else (some (.inl ()))
def zf_M_isTwice_l0 (x1 : Int) (x2 : Int) (f0 : Int) (g0 : (Int → Int)) (g1 : (Int → Int)) : Nat → Int → Option (((Unit) ⊕ (Int)))
  | 0, _ => none
  | n + 1, x3 => zf_M_isTwice_l0_b x1 x2 f0 g0 g1 (zf_M_isTwice_l0 x1 x2 f0 g0 g1 n) x3
def zf_M_isTwice (x1 : Int) (x2 : Int) (f0 : Int) (g0 : (Int → Int)) (g1 : (Int → Int)) : Option (Int) := (zf_M_isTwice_l0 x1 x2 f0 g0 g1 zi_fu 0).bind fun q9 => Sum.elim (fun e10 => (some 0)) (fun w11 => some w11) q9
theorem zd266_0 : decode zxm266.2.1 0 = .ok (.iconst 0, 1) := by decide +kernel
theorem zd266_1 : decode zxm266.2.1 1 = .ok (.istore_n 3, 1) := by decide +kernel
theorem zd266_2 : decode zxm266.2.1 2 = .ok (.iload_n 3, 1) := by decide +kernel
theorem zd266_3 : decode zxm266.2.1 3 = .ok (.aload_n 0, 1) := by decide +kernel
theorem zd266_4 : decode zxm266.2.1 4 = .ok (.getfield 339, 3) := by decide +kernel
theorem zd266_7 : decode zxm266.2.1 7 = .ok (.if_icmp .ge 51, 3) := by decide +kernel
theorem zd266_10 : decode zxm266.2.1 10 = .ok (.aload_n 0, 1) := by decide +kernel
theorem zd266_11 : decode zxm266.2.1 11 = .ok (.getfield 71, 3) := by decide +kernel
theorem zd266_14 : decode zxm266.2.1 14 = .ok (.iload_n 3, 1) := by decide +kernel
theorem zd266_15 : decode zxm266.2.1 15 = .ok (.iaload, 1) := by decide +kernel
theorem zd266_16 : decode zxm266.2.1 16 = .ok (.iload_n 1, 1) := by decide +kernel
theorem zd266_17 : decode zxm266.2.1 17 = .ok (.if_icmp .ne 13, 3) := by decide +kernel
theorem zd266_20 : decode zxm266.2.1 20 = .ok (.aload_n 0, 1) := by decide +kernel
theorem zd266_21 : decode zxm266.2.1 21 = .ok (.getfield 74, 3) := by decide +kernel
theorem zd266_24 : decode zxm266.2.1 24 = .ok (.iload_n 3, 1) := by decide +kernel
theorem zd266_25 : decode zxm266.2.1 25 = .ok (.iaload, 1) := by decide +kernel
theorem zd266_26 : decode zxm266.2.1 26 = .ok (.iload_n 2, 1) := by decide +kernel
theorem zd266_27 : decode zxm266.2.1 27 = .ok (.if_icmp .eq 23, 3) := by decide +kernel
theorem zd266_30 : decode zxm266.2.1 30 = .ok (.aload_n 0, 1) := by decide +kernel
theorem zd266_31 : decode zxm266.2.1 31 = .ok (.getfield 71, 3) := by decide +kernel
theorem zd266_34 : decode zxm266.2.1 34 = .ok (.iload_n 3, 1) := by decide +kernel
theorem zd266_35 : decode zxm266.2.1 35 = .ok (.iaload, 1) := by decide +kernel
theorem zd266_36 : decode zxm266.2.1 36 = .ok (.iload_n 2, 1) := by decide +kernel
theorem zd266_37 : decode zxm266.2.1 37 = .ok (.if_icmp .ne 15, 3) := by decide +kernel
theorem zd266_40 : decode zxm266.2.1 40 = .ok (.aload_n 0, 1) := by decide +kernel
theorem zd266_41 : decode zxm266.2.1 41 = .ok (.getfield 74, 3) := by decide +kernel
theorem zd266_44 : decode zxm266.2.1 44 = .ok (.iload_n 3, 1) := by decide +kernel
theorem zd266_45 : decode zxm266.2.1 45 = .ok (.iaload, 1) := by decide +kernel
theorem zd266_46 : decode zxm266.2.1 46 = .ok (.iload_n 1, 1) := by decide +kernel
theorem zd266_47 : decode zxm266.2.1 47 = .ok (.if_icmp .ne 5, 3) := by decide +kernel
theorem zd266_50 : decode zxm266.2.1 50 = .ok (.iconst 1, 1) := by decide +kernel
theorem zd266_51 : decode zxm266.2.1 51 = .ok (.ireturn, 1) := by decide +kernel
theorem zd266_52 : decode zxm266.2.1 52 = .ok (.iinc 3 1, 3) := by decide +kernel
theorem zd266_55 : decode zxm266.2.1 55 = .ok (.goto (-53), 3) := by decide +kernel
theorem zd266_58 : decode zxm266.2.1 58 = .ok (.iconst 0, 1) := by decide +kernel
theorem zd266_59 : decode zxm266.2.1 59 = .ok (.ireturn, 1) := by decide +kernel
theorem zt_M_isTwice {x1 : Int} {x2 : Int} {f0 : Int} {g0 : (Int → Int)} {g1 : (Int → Int)} {o : Int} (h : zf_M_isTwice x1 x2 f0 g0 g1 = some o) : zv_Fn z_TB z_cl z_KX zy_M_isTwice zxm266 (0, 0) [.inr 0, .inl x1, .inl x2] [.inl f0] [g0, g1] (some o) [.inl f0] [g0, g1] := zv_meth (K := (z_KF13, z_KC13, z_KL13, z_KT13, [], [], [], none)) (FT := z_FT) (MT := z_MT) (n := 3) zxp266 (z_ks13 _ (fun _ h => List.mem_cons_of_mem _ h) _ _ _ _ (fun j r h _ => by cases h)) (fun _ _ => zs_KX_p) zyw_M_isTwice (fun va F G h => by obtain ⟨rfl, _⟩ := h; rfl) (fun va F G h => by obtain ⟨rfl, _⟩ := h; rfl) rfl fun good va F G hB hret hvret hP => by
  obtain ⟨rfl, rfl, rfl⟩ := hP
  have l0 : ∀ (n : Nat) (x1 : Int) (x2 : Int) (x3 : Int) (q : ((Unit) ⊕ (Int))), zf_M_isTwice_l0 x1 x2 f0 g0 g1 n x3 = some q → (Sum.elim (fun e : Unit => good 58 [.inr 1000, .inr 1000, .inr 1000, .inr 1000] [] [.inl f0] [g0, g1]) (fun w : Int => w = o) q) → good 2 [.inr 0, .inl x1, .inl x2, .inl x3] [] [.inl f0] [g0, g1] := by
    intro n
    induction n with
    | zero => intro x1 x2 x3 q h; exact absurd (show none = some q from h) (fun h => by cases h)
    | succ n ih =>
      intro x1 x2 x3 q h hK
      replace h : zf_M_isTwice_l0_b x1 x2 f0 g0 g1 (zf_M_isTwice_l0 x1 x2 f0 g0 g1 n) x3 = some q := h
      unfold zf_M_isTwice_l0_b at h
      refine zv_ild hB zd266_2 rfl rfl ?_
      refine zv_ald hB zd266_3 rfl rfl rfl ?_
      refine zv_getf hB zd266_4 rfl rfl (fun _ _ => ?_)
      refine zv_cge hB zd266_7 rfl (fun hc1 => ?_) (fun hc1 => ?_)
      · rw [if_neg (Int.not_lt.mpr hc1)] at h
        have hq := Option.some.inj h
        subst hq
        refine zv_wk hB (L' := [.inr 1000, .inr 1000, .inr 1000, .inr 1000]) (F' := [.inl f0]) ⟨fun (h : zv_is (.inr 1000)) => (Nat.lt_irrefl 1000 h).elim, fun (h : zv_is (.inr 1000)) => (Nat.lt_irrefl 1000 h).elim, fun (h : zv_is (.inr 1000)) => (Nat.lt_irrefl 1000 h).elim, fun (h : zv_is (.inr 1000)) => (Nat.lt_irrefl 1000 h).elim, trivial⟩ ⟨fun _ => rfl, trivial⟩ ?_
        exact hK
      · rw [if_pos hc1] at h
        refine zv_ald hB zd266_10 rfl rfl rfl ?_
        refine zv_getr hB zd266_11 rfl ?_
        refine zv_ild hB zd266_14 rfl rfl ?_
        obtain ⟨c2, h⟩ := zi_if h
        refine zv_iald hB zd266_15 rfl rfl (zi_ix_ok c2).1 (zi_ix_ok c2).2 (fun _ _ => ?_)
        refine zv_ild hB zd266_16 rfl rfl ?_
        refine zv_cne hB zd266_17 rfl (fun hc3 => ?_) (fun hc3 => ?_)
        · rw [if_neg hc3] at h
          refine zv_ald hB zd266_30 rfl rfl rfl ?_
          refine zv_getr hB zd266_31 rfl ?_
          refine zv_ild hB zd266_34 rfl rfl ?_
          refine zv_iald hB zd266_35 rfl rfl (zi_ix_ok c2).1 (zi_ix_ok c2).2 (fun _ _ => ?_)
          refine zv_ild hB zd266_36 rfl rfl ?_
          refine zv_cne hB zd266_37 rfl (fun hc4 => ?_) (fun hc4 => ?_)
          · rw [if_neg hc4] at h
            refine zv_iincw hB zd266_52 rfl rfl ?_
            refine zv_goto hB zd266_55 rfl ?_
            exact ih _ _ _ q h hK
          · rw [if_pos hc4] at h
            refine zv_ald hB zd266_40 rfl rfl rfl ?_
            refine zv_getr hB zd266_41 rfl ?_
            refine zv_ild hB zd266_44 rfl rfl ?_
            refine zv_iald hB zd266_45 rfl rfl (zi_ix_ok c2).1 (zi_ix_ok c2).2 (fun _ _ => ?_)
            refine zv_ild hB zd266_46 rfl rfl ?_
            refine zv_cne hB zd266_47 rfl (fun hc5 => ?_) (fun hc5 => ?_)
            · rw [if_neg hc5] at h
              refine zv_iincw hB zd266_52 rfl rfl ?_
              refine zv_goto hB zd266_55 rfl ?_
              exact ih _ _ _ q h hK
            · rw [if_pos hc5] at h
              refine zv_con hB zd266_50 rfl ?_
              have hw : 1 = o := zi_rk (Option.some.inj h) hK
              subst hw
              exact hret _ _ _ _ _ zd266_51 (by constructor <;> decide) ⟨rfl, rfl, rfl⟩
        · rw [if_pos hc3] at h
          refine zv_ald hB zd266_20 rfl rfl rfl ?_
          refine zv_getr hB zd266_21 rfl ?_
          refine zv_ild hB zd266_24 rfl rfl ?_
          refine zv_iald hB zd266_25 rfl rfl (zi_ix_ok c2).1 (zi_ix_ok c2).2 (fun _ _ => ?_)
          refine zv_ild hB zd266_26 rfl rfl ?_
          refine zv_ceq hB zd266_27 rfl (fun hc6 => ?_) (fun hc6 => ?_)
          · rw [if_pos hc6] at h
            refine zv_con hB zd266_50 rfl ?_
            have hw : 1 = o := zi_rk (Option.some.inj h) hK
            subst hw
            exact hret _ _ _ _ _ zd266_51 (by constructor <;> decide) ⟨rfl, rfl, rfl⟩
          · rw [if_neg hc6] at h
            refine zv_ald hB zd266_30 rfl rfl rfl ?_
            refine zv_getr hB zd266_31 rfl ?_
            refine zv_ild hB zd266_34 rfl rfl ?_
            refine zv_iald hB zd266_35 rfl rfl (zi_ix_ok c2).1 (zi_ix_ok c2).2 (fun _ _ => ?_)
            refine zv_ild hB zd266_36 rfl rfl ?_
            refine zv_cne hB zd266_37 rfl (fun hc7 => ?_) (fun hc7 => ?_)
            · rw [if_neg hc7] at h
              refine zv_iincw hB zd266_52 rfl rfl ?_
              refine zv_goto hB zd266_55 rfl ?_
              exact ih _ _ _ q h hK
            · rw [if_pos hc7] at h
              refine zv_ald hB zd266_40 rfl rfl rfl ?_
              refine zv_getr hB zd266_41 rfl ?_
              refine zv_ild hB zd266_44 rfl rfl ?_
              refine zv_iald hB zd266_45 rfl rfl (zi_ix_ok c2).1 (zi_ix_ok c2).2 (fun _ _ => ?_)
              refine zv_ild hB zd266_46 rfl rfl ?_
              refine zv_cne hB zd266_47 rfl (fun hc8 => ?_) (fun hc8 => ?_)
              · rw [if_neg hc8] at h
                refine zv_iincw hB zd266_52 rfl rfl ?_
                refine zv_goto hB zd266_55 rfl ?_
                exact ih _ _ _ q h hK
              · rw [if_pos hc8] at h
                refine zv_con hB zd266_50 rfl ?_
                have hw : 1 = o := zi_rk (Option.some.inj h) hK
                subst hw
                exact hret _ _ _ _ _ zd266_51 (by constructor <;> decide) ⟨rfl, rfl, rfl⟩
  unfold zf_M_isTwice at h
  refine zv_con hB zd266_0 rfl ?_
  refine zv_ist hB zd266_1 rfl rfl rfl ?_
  obtain ⟨q9, hq9, h⟩ := zi_bind h
  refine l0 _ _ _ _ q9 hq9 ?_
  rcases q9 with e10 | w11
  · replace h := zi_sl h
    show good 58 [.inr 1000, .inr 1000, .inr 1000, .inr 1000] [] [.inl f0] [g0, g1]
    refine zv_con hB zd266_58 rfl ?_
    have hw := Option.some.inj h
    subst hw
    exact hret _ _ _ _ _ zd266_59 (by constructor <;> decide) ⟨rfl, rfl, rfl⟩
  · exact Option.some.inj h
/-! M_readsTaleLine ()Z -/
-- names: 0 StarTalesModel('arg', 0), 1 (1, 220)(0, 12, 3), 2 (0, 12)(0, 12, 36), 3 (0, 12)(0, 12, 37)
-- fields: f0 = 0.place0_, f1 = 0.length0_, f2 = 0.newLines_, f3 = 0.fault_; arrays: g0 = 1, g1 = 2, g2 = 3; out: [('ret', None), ('f', 0), ('f', 2), ('f', 3), ('g', 1), ('g', 2)]
abbrev zy_M_readsTaleLine : zNL := (4, [(0, 12)], [(0, 12, 5, 0), (0, 12, 6, 1), (0, 12, 32, 2), (0, 12, 7, 3)], [(0, 12, 3, 1), (0, 12, 36, 2), (0, 12, 37, 3)], [(1, 1, 220, 0), (2, 0, 12, 1), (3, 0, 12, 2)])
theorem zyw_M_readsTaleLine : zv_wf zy_M_readsTaleLine = true := by decide +kernel
theorem zye_M_readsTaleLine : zv_ek2 zy_M_readsTaleLine = true := by decide +kernel
def zf_M_readsTaleLine (f0 : Int) (f1 : Int) (f2 : Int) (f3 : Int) (g0 : (Int → Int)) (g1 : (Int → Int)) (g2 : (Int → Int)) : Option (Int × Int × Int × Int × (Int → Int) × (Int → Int)) := (zf_M_isName f0 f1 g0).bind fun r1 => (if r1 = 0 then ((zf_M_wrongAt 1 f0 f3).bind fun r20 => (cond (zi_bo r20.1) (some (r20.1, f0, f2, r20.2, g1, g2)) none)) else (if f2 = 12 then ((zf_M_wrongAt 4 f0 f3).bind fun r18 => (cond (zi_bo r18.1) (some (r18.1, f0, f2, r18.2, g1, g2)) none)) else ((zf_M_here f0 f1 g0).bind fun r4 => ((zf_M_isName (zi_w (f0 + 1)) f1 g0).bind fun r5 => (if r5 = 0 then ((zf_M_wrongAt 1 (zi_w (f0 + 1)) f3).bind fun r16 => (cond (zi_bo r16.1) (some (r16.1, (zi_w (f0 + 1)), f2, r16.2, g1, g2)) none)) else ((zf_M_here (zi_w (f0 + 1)) f1 g0).bind fun r7 => (if (zi_w (r4 - 65)) = (zi_w (r7 - 65)) then ((zf_M_wrongAt 3 (zi_w (f0 + 1)) f3).bind fun r14 => (cond (zi_bo r14.1) (some (r14.1, (zi_w (f0 + 1)), f2, r14.2, g1, g2)) none)) else ((zf_M_isTwice (zi_w (r4 - 65)) (zi_w (r7 - 65)) f2 g1 g2).bind fun r9 => (if r9 = 0 then (cond (zi_ix f2 12) (some (1, (zi_w ((zi_w (f0 + 1)) + 1)), (zi_w (f2 + 1)), f3, (zv_up g1 f2 (zi_w (r4 - 65))), (zv_up g2 f2 (zi_w (r7 - 65))))) none) else ((zf_M_wrongAt 6 f0 f3).bind fun r12 => (cond (zi_bo r12.1) (some (r12.1, (zi_w (f0 + 1)), f2, r12.2, g1, g2)) none)))))))))))
theorem zd264_0 : decode zxm264.2.1 0 = .ok (.aload_n 0, 1) := by decide +kernel
theorem zd264_1 : decode zxm264.2.1 1 = .ok (.getfield 176, 3) := by decide +kernel
theorem zd264_4 : decode zxm264.2.1 4 = .ok (.istore_n 1, 1) := by decide +kernel
theorem zd264_5 : decode zxm264.2.1 5 = .ok (.aload_n 0, 1) := by decide +kernel
theorem zd264_6 : decode zxm264.2.1 6 = .ok (.invokevirtual 342, 3) := by decide +kernel
theorem zd264_9 : decode zxm264.2.1 9 = .ok (.ifCond .ne 13, 3) := by decide +kernel
theorem zd264_12 : decode zxm264.2.1 12 = .ok (.aload_n 0, 1) := by decide +kernel
theorem zd264_13 : decode zxm264.2.1 13 = .ok (.iconst 1, 1) := by decide +kernel
theorem zd264_14 : decode zxm264.2.1 14 = .ok (.aload_n 0, 1) := by decide +kernel
theorem zd264_15 : decode zxm264.2.1 15 = .ok (.getfield 176, 3) := by decide +kernel
theorem zd264_18 : decode zxm264.2.1 18 = .ok (.invokevirtual 189, 3) := by decide +kernel
theorem zd264_21 : decode zxm264.2.1 21 = .ok (.ireturn, 1) := by decide +kernel
theorem zd264_22 : decode zxm264.2.1 22 = .ok (.aload_n 0, 1) := by decide +kernel
theorem zd264_23 : decode zxm264.2.1 23 = .ok (.getfield 339, 3) := by decide +kernel
theorem zd264_26 : decode zxm264.2.1 26 = .ok (.bipush 12, 2) := by decide +kernel
theorem zd264_28 : decode zxm264.2.1 28 = .ok (.if_icmp .ne 13, 3) := by decide +kernel
theorem zd264_31 : decode zxm264.2.1 31 = .ok (.aload_n 0, 1) := by decide +kernel
theorem zd264_32 : decode zxm264.2.1 32 = .ok (.iconst 4, 1) := by decide +kernel
theorem zd264_33 : decode zxm264.2.1 33 = .ok (.aload_n 0, 1) := by decide +kernel
theorem zd264_34 : decode zxm264.2.1 34 = .ok (.getfield 176, 3) := by decide +kernel
theorem zd264_37 : decode zxm264.2.1 37 = .ok (.invokevirtual 189, 3) := by decide +kernel
theorem zd264_40 : decode zxm264.2.1 40 = .ok (.ireturn, 1) := by decide +kernel
theorem zd264_41 : decode zxm264.2.1 41 = .ok (.aload_n 0, 1) := by decide +kernel
theorem zd264_42 : decode zxm264.2.1 42 = .ok (.invokevirtual 182, 3) := by decide +kernel
theorem zd264_45 : decode zxm264.2.1 45 = .ok (.bipush 65, 2) := by decide +kernel
theorem zd264_47 : decode zxm264.2.1 47 = .ok (.isub, 1) := by decide +kernel
theorem zd264_48 : decode zxm264.2.1 48 = .ok (.istore_n 2, 1) := by decide +kernel
theorem zd264_49 : decode zxm264.2.1 49 = .ok (.aload_n 0, 1) := by decide +kernel
theorem zd264_50 : decode zxm264.2.1 50 = .ok (.aload_n 0, 1) := by decide +kernel
theorem zd264_51 : decode zxm264.2.1 51 = .ok (.getfield 176, 3) := by decide +kernel
theorem zd264_54 : decode zxm264.2.1 54 = .ok (.iconst 1, 1) := by decide +kernel
theorem zd264_55 : decode zxm264.2.1 55 = .ok (.iadd, 1) := by decide +kernel
theorem zd264_56 : decode zxm264.2.1 56 = .ok (.putfield 176, 3) := by decide +kernel
theorem zd264_59 : decode zxm264.2.1 59 = .ok (.aload_n 0, 1) := by decide +kernel
theorem zd264_60 : decode zxm264.2.1 60 = .ok (.invokevirtual 342, 3) := by decide +kernel
theorem zd264_63 : decode zxm264.2.1 63 = .ok (.ifCond .ne 13, 3) := by decide +kernel
theorem zd264_66 : decode zxm264.2.1 66 = .ok (.aload_n 0, 1) := by decide +kernel
theorem zd264_67 : decode zxm264.2.1 67 = .ok (.iconst 1, 1) := by decide +kernel
theorem zd264_68 : decode zxm264.2.1 68 = .ok (.aload_n 0, 1) := by decide +kernel
theorem zd264_69 : decode zxm264.2.1 69 = .ok (.getfield 176, 3) := by decide +kernel
theorem zd264_72 : decode zxm264.2.1 72 = .ok (.invokevirtual 189, 3) := by decide +kernel
theorem zd264_75 : decode zxm264.2.1 75 = .ok (.ireturn, 1) := by decide +kernel
theorem zd264_76 : decode zxm264.2.1 76 = .ok (.aload_n 0, 1) := by decide +kernel
theorem zd264_77 : decode zxm264.2.1 77 = .ok (.invokevirtual 182, 3) := by decide +kernel
theorem zd264_80 : decode zxm264.2.1 80 = .ok (.bipush 65, 2) := by decide +kernel
theorem zd264_82 : decode zxm264.2.1 82 = .ok (.isub, 1) := by decide +kernel
theorem zd264_83 : decode zxm264.2.1 83 = .ok (.istore_n 3, 1) := by decide +kernel
theorem zd264_84 : decode zxm264.2.1 84 = .ok (.iload_n 2, 1) := by decide +kernel
theorem zd264_85 : decode zxm264.2.1 85 = .ok (.iload_n 3, 1) := by decide +kernel
theorem zd264_86 : decode zxm264.2.1 86 = .ok (.if_icmp .ne 13, 3) := by decide +kernel
theorem zd264_89 : decode zxm264.2.1 89 = .ok (.aload_n 0, 1) := by decide +kernel
theorem zd264_90 : decode zxm264.2.1 90 = .ok (.iconst 3, 1) := by decide +kernel
theorem zd264_91 : decode zxm264.2.1 91 = .ok (.aload_n 0, 1) := by decide +kernel
theorem zd264_92 : decode zxm264.2.1 92 = .ok (.getfield 176, 3) := by decide +kernel
theorem zd264_95 : decode zxm264.2.1 95 = .ok (.invokevirtual 189, 3) := by decide +kernel
theorem zd264_98 : decode zxm264.2.1 98 = .ok (.ireturn, 1) := by decide +kernel
theorem zd264_99 : decode zxm264.2.1 99 = .ok (.aload_n 0, 1) := by decide +kernel
theorem zd264_100 : decode zxm264.2.1 100 = .ok (.iload_n 2, 1) := by decide +kernel
theorem zd264_101 : decode zxm264.2.1 101 = .ok (.iload_n 3, 1) := by decide +kernel
theorem zd264_102 : decode zxm264.2.1 102 = .ok (.invokevirtual 345, 3) := by decide +kernel
theorem zd264_105 : decode zxm264.2.1 105 = .ok (.ifCond .eq 11, 3) := by decide +kernel
theorem zd264_108 : decode zxm264.2.1 108 = .ok (.aload_n 0, 1) := by decide +kernel
theorem zd264_109 : decode zxm264.2.1 109 = .ok (.bipush 6, 2) := by decide +kernel
theorem zd264_111 : decode zxm264.2.1 111 = .ok (.iload_n 1, 1) := by decide +kernel
theorem zd264_112 : decode zxm264.2.1 112 = .ok (.invokevirtual 189, 3) := by decide +kernel
theorem zd264_115 : decode zxm264.2.1 115 = .ok (.ireturn, 1) := by decide +kernel
theorem zd264_116 : decode zxm264.2.1 116 = .ok (.aload_n 0, 1) := by decide +kernel
theorem zd264_117 : decode zxm264.2.1 117 = .ok (.aload_n 0, 1) := by decide +kernel
theorem zd264_118 : decode zxm264.2.1 118 = .ok (.getfield 176, 3) := by decide +kernel
theorem zd264_121 : decode zxm264.2.1 121 = .ok (.iconst 1, 1) := by decide +kernel
theorem zd264_122 : decode zxm264.2.1 122 = .ok (.iadd, 1) := by decide +kernel
theorem zd264_123 : decode zxm264.2.1 123 = .ok (.putfield 176, 3) := by decide +kernel
theorem zd264_126 : decode zxm264.2.1 126 = .ok (.aload_n 0, 1) := by decide +kernel
theorem zd264_127 : decode zxm264.2.1 127 = .ok (.getfield 71, 3) := by decide +kernel
theorem zd264_130 : decode zxm264.2.1 130 = .ok (.aload_n 0, 1) := by decide +kernel
theorem zd264_131 : decode zxm264.2.1 131 = .ok (.getfield 339, 3) := by decide +kernel
theorem zd264_134 : decode zxm264.2.1 134 = .ok (.iload_n 2, 1) := by decide +kernel
theorem zd264_135 : decode zxm264.2.1 135 = .ok (.iastore, 1) := by decide +kernel
theorem zd264_136 : decode zxm264.2.1 136 = .ok (.aload_n 0, 1) := by decide +kernel
theorem zd264_137 : decode zxm264.2.1 137 = .ok (.getfield 74, 3) := by decide +kernel
theorem zd264_140 : decode zxm264.2.1 140 = .ok (.aload_n 0, 1) := by decide +kernel
theorem zd264_141 : decode zxm264.2.1 141 = .ok (.getfield 339, 3) := by decide +kernel
theorem zd264_144 : decode zxm264.2.1 144 = .ok (.iload_n 3, 1) := by decide +kernel
theorem zd264_145 : decode zxm264.2.1 145 = .ok (.iastore, 1) := by decide +kernel
theorem zd264_146 : decode zxm264.2.1 146 = .ok (.aload_n 0, 1) := by decide +kernel
theorem zd264_147 : decode zxm264.2.1 147 = .ok (.aload_n 0, 1) := by decide +kernel
theorem zd264_148 : decode zxm264.2.1 148 = .ok (.getfield 339, 3) := by decide +kernel
theorem zd264_151 : decode zxm264.2.1 151 = .ok (.iconst 1, 1) := by decide +kernel
theorem zd264_152 : decode zxm264.2.1 152 = .ok (.iadd, 1) := by decide +kernel
theorem zd264_153 : decode zxm264.2.1 153 = .ok (.putfield 339, 3) := by decide +kernel
theorem zd264_156 : decode zxm264.2.1 156 = .ok (.iconst 1, 1) := by decide +kernel
theorem zd264_157 : decode zxm264.2.1 157 = .ok (.ireturn, 1) := by decide +kernel
theorem zt_M_readsTaleLine {f0 : Int} {f1 : Int} {f2 : Int} {f3 : Int} {g0 : (Int → Int)} {g1 : (Int → Int)} {g2 : (Int → Int)} {o : Int × Int × Int × Int × (Int → Int) × (Int → Int)} (h : zf_M_readsTaleLine f0 f1 f2 f3 g0 g1 g2 = some o) : zv_Fn z_TB z_cl z_KX zy_M_readsTaleLine zxm264 (2, 120) [.inr 0] [.inl f0, .inl f1, .inl f2, .inl f3] [g0, g1, g2] (some o.1) [.inl o.2.1, .inl f1, .inl o.2.2.1, .inl o.2.2.2.1] [g0, o.2.2.2.2.1, o.2.2.2.2.2] := zv_meth (K := (z_KF13, z_KC13, z_KL13, z_KT13, [], [], [], none)) (FT := z_FT) (MT := z_MT) (n := 1) zxp264 (z_ks13 _ (fun _ h => List.mem_cons_of_mem _ h) _ _ _ _ (fun j r h _ => by cases h)) (fun _ _ => zs_KX_p) zyw_M_readsTaleLine (fun va F G h => by obtain ⟨rfl, _⟩ := h; rfl) (fun va F G h => by obtain ⟨rfl, _⟩ := h; rfl) rfl fun good va F G hB hret hvret hP => by
  obtain ⟨rfl, rfl, rfl⟩ := hP
  unfold zf_M_readsTaleLine at h
  refine zv_ald hB zd264_0 rfl rfl rfl ?_
  refine zv_getf hB zd264_1 rfl rfl (fun _ _ => ?_)
  refine zv_ist hB zd264_4 rfl rfl rfl ?_
  refine zv_ald hB zd264_5 rfl rfl rfl ?_
  obtain ⟨r1, hr1, h⟩ := zi_bind h
  refine zv_cv hB (zv_emq (va2 := [.inr 0]) (F := [.inl f0, .inl f1, .inl f2, .inl f3]) (F' := [.inl f0, .inl f1, .inl f2, .inl f3]) (G := [g0, g1, g2]) (G' := [g0, g1, g2]) (ρ := [0, 1]) (φ := [0, 1]) (ψ := [0]) [some 0, some 1, none, none] [some 0, none, none] zyw_M_isName zyw_M_readsTaleLine zye_M_readsTaleLine (by decide +kernel) (zt_M_isName hr1) ⟨⟨_, rfl, fun _ => rfl⟩, ⟨_, rfl, fun _ => rfl⟩, trivial⟩ ⟨rfl, trivial⟩ rfl rfl rfl rfl rfl rfl rfl) zd264_6 zxt265 rfl (by decide) (by decide) rfl ?_
  refine zv_zne hB zd264_9 rfl (fun hc2 => ?_) (fun hc2 => ?_)
  · rw [if_neg hc2] at h
    refine zv_ald hB zd264_22 rfl rfl rfl ?_
    refine zv_getf hB zd264_23 rfl rfl (fun _ _ => ?_)
    refine zv_con hB zd264_26 rfl ?_
    refine zv_cne hB zd264_28 rfl (fun hc3 => ?_) (fun hc3 => ?_)
    · rw [if_neg hc3] at h
      refine zv_ald hB zd264_41 rfl rfl rfl ?_
      obtain ⟨r4, hr4, h⟩ := zi_bind h
      refine zv_cv hB (zv_emq (va2 := [.inr 0]) (F := [.inl f0, .inl f1, .inl f2, .inl f3]) (F' := [.inl f0, .inl f1, .inl f2, .inl f3]) (G := [g0, g1, g2]) (G' := [g0, g1, g2]) (ρ := [0, 1]) (φ := [0, 1]) (ψ := [0]) [some 0, some 1, none, none] [some 0, none, none] zyw_M_here zyw_M_readsTaleLine zye_M_readsTaleLine (by decide +kernel) (zt_M_here hr4) ⟨⟨_, rfl, fun _ => rfl⟩, ⟨_, rfl, fun _ => rfl⟩, trivial⟩ ⟨rfl, trivial⟩ rfl rfl rfl rfl rfl rfl rfl) zd264_42 zxt217 rfl (by decide) (by decide) rfl ?_
      refine zv_con hB zd264_45 rfl ?_
      refine zv_subw hB zd264_47 ?_
      refine zv_ist hB zd264_48 rfl rfl rfl ?_
      refine zv_ald hB zd264_49 rfl rfl rfl ?_
      refine zv_ald hB zd264_50 rfl rfl rfl ?_
      refine zv_getf hB zd264_51 rfl rfl (fun _ _ => ?_)
      refine zv_con hB zd264_54 rfl ?_
      refine zv_addw hB zd264_55 ?_
      refine zv_putf hB zd264_56 rfl rfl (fun h => by cases h) rfl ?_
      refine zv_ald hB zd264_59 rfl rfl rfl ?_
      obtain ⟨r5, hr5, h⟩ := zi_bind h
      refine zv_cv hB (zv_emq (va2 := [.inr 0]) (F := [.inl (zi_w (f0 + 1)), .inl f1, .inl f2, .inl f3]) (F' := [.inl (zi_w (f0 + 1)), .inl f1, .inl f2, .inl f3]) (G := [g0, g1, g2]) (G' := [g0, g1, g2]) (ρ := [0, 1]) (φ := [0, 1]) (ψ := [0]) [some 0, some 1, none, none] [some 0, none, none] zyw_M_isName zyw_M_readsTaleLine zye_M_readsTaleLine (by decide +kernel) (zt_M_isName hr5) ⟨⟨_, rfl, fun _ => rfl⟩, ⟨_, rfl, fun _ => rfl⟩, trivial⟩ ⟨rfl, trivial⟩ rfl rfl rfl rfl rfl rfl rfl) zd264_60 zxt265 rfl (by decide) (by decide) rfl ?_
      refine zv_zne hB zd264_63 rfl (fun hc6 => ?_) (fun hc6 => ?_)
      · rw [if_neg hc6] at h
        refine zv_ald hB zd264_76 rfl rfl rfl ?_
        obtain ⟨r7, hr7, h⟩ := zi_bind h
        refine zv_cv hB (zv_emq (va2 := [.inr 0]) (F := [.inl (zi_w (f0 + 1)), .inl f1, .inl f2, .inl f3]) (F' := [.inl (zi_w (f0 + 1)), .inl f1, .inl f2, .inl f3]) (G := [g0, g1, g2]) (G' := [g0, g1, g2]) (ρ := [0, 1]) (φ := [0, 1]) (ψ := [0]) [some 0, some 1, none, none] [some 0, none, none] zyw_M_here zyw_M_readsTaleLine zye_M_readsTaleLine (by decide +kernel) (zt_M_here hr7) ⟨⟨_, rfl, fun _ => rfl⟩, ⟨_, rfl, fun _ => rfl⟩, trivial⟩ ⟨rfl, trivial⟩ rfl rfl rfl rfl rfl rfl rfl) zd264_77 zxt217 rfl (by decide) (by decide) rfl ?_
        refine zv_con hB zd264_80 rfl ?_
        refine zv_subw hB zd264_82 ?_
        refine zv_ist hB zd264_83 rfl rfl rfl ?_
        refine zv_ild hB zd264_84 rfl rfl ?_
        refine zv_ild hB zd264_85 rfl rfl ?_
        refine zv_cne hB zd264_86 rfl (fun hc8 => ?_) (fun hc8 => ?_)
        · rw [if_neg hc8] at h
          refine zv_ald hB zd264_99 rfl rfl rfl ?_
          refine zv_ild hB zd264_100 rfl rfl ?_
          refine zv_ild hB zd264_101 rfl rfl ?_
          obtain ⟨r9, hr9, h⟩ := zi_bind h
          refine zv_cv hB (zv_emq (va2 := [.inr 0, .inl (zi_w (r4 - 65)), .inl (zi_w (r7 - 65))]) (F := [.inl (zi_w (f0 + 1)), .inl f1, .inl f2, .inl f3]) (F' := [.inl (zi_w (f0 + 1)), .inl f1, .inl f2, .inl f3]) (G := [g0, g1, g2]) (G' := [g0, g1, g2]) (ρ := [0, 2, 3]) (φ := [2]) (ψ := [1, 2]) [none, none, some 0, none] [none, some 0, some 1] zyw_M_isTwice zyw_M_readsTaleLine zye_M_readsTaleLine (by decide +kernel) (zt_M_isTwice hr9) ⟨⟨_, rfl, fun _ => rfl⟩, trivial⟩ ⟨rfl, rfl, trivial⟩ rfl rfl rfl rfl rfl rfl rfl) zd264_102 zxt266 rfl (by decide) (by decide) rfl ?_
          refine zv_zeq hB zd264_105 rfl (fun hc10 => ?_) (fun hc10 => ?_)
          · rw [if_pos hc10] at h
            refine zv_ald hB zd264_116 rfl rfl rfl ?_
            refine zv_ald hB zd264_117 rfl rfl rfl ?_
            refine zv_getf hB zd264_118 rfl rfl (fun _ _ => ?_)
            refine zv_con hB zd264_121 rfl ?_
            refine zv_addw hB zd264_122 ?_
            refine zv_putf hB zd264_123 rfl rfl (fun h => by cases h) rfl ?_
            refine zv_ald hB zd264_126 rfl rfl rfl ?_
            refine zv_getr hB zd264_127 rfl ?_
            refine zv_ald hB zd264_130 rfl rfl rfl ?_
            refine zv_getf hB zd264_131 rfl rfl (fun _ _ => ?_)
            refine zv_ild hB zd264_134 rfl rfl ?_
            obtain ⟨c11, h⟩ := zi_if h
            refine zv_iast hB zd264_135 rfl rfl (zi_ix_ok c11).1 (zi_ix_ok c11).2 ?_
            refine zv_ald hB zd264_136 rfl rfl rfl ?_
            refine zv_getr hB zd264_137 rfl ?_
            refine zv_ald hB zd264_140 rfl rfl rfl ?_
            refine zv_getf hB zd264_141 rfl rfl (fun _ _ => ?_)
            refine zv_ild hB zd264_144 rfl rfl ?_
            refine zv_iast hB zd264_145 rfl rfl (zi_ix_ok c11).1 (zi_ix_ok c11).2 ?_
            refine zv_ald hB zd264_146 rfl rfl rfl ?_
            refine zv_ald hB zd264_147 rfl rfl rfl ?_
            refine zv_getf hB zd264_148 rfl rfl (fun _ _ => ?_)
            refine zv_con hB zd264_151 rfl ?_
            refine zv_addw hB zd264_152 ?_
            refine zv_putf hB zd264_153 rfl rfl (fun h => by cases h) rfl ?_
            refine zv_con hB zd264_156 rfl ?_
            have hw := Option.some.inj h
            subst hw
            exact hret _ _ _ _ _ zd264_157 (by constructor <;> decide) ⟨rfl, rfl, rfl⟩
          · rw [if_neg hc10] at h
            refine zv_ald hB zd264_108 rfl rfl rfl ?_
            refine zv_con hB zd264_109 rfl ?_
            refine zv_ild hB zd264_111 rfl rfl ?_
            obtain ⟨r12, hr12, h⟩ := zi_bind h
            refine zv_cv hB (zv_emq (va2 := [.inr 0, .inl 6, .inl f0]) (F := [.inl (zi_w (f0 + 1)), .inl f1, .inl f2, .inl f3]) (F' := [.inl (zi_w (f0 + 1)), .inl f1, .inl f2, .inl r12.2]) (G := [g0, g1, g2]) (G' := [g0, g1, g2]) (ρ := [0]) (φ := [3]) (ψ := []) [none, none, none, some 0] [none, none, none] zyw_M_wrongAt zyw_M_readsTaleLine zye_M_readsTaleLine (by decide +kernel) (zt_M_wrongAt hr12) ⟨⟨_, rfl, fun _ => rfl⟩, trivial⟩ trivial rfl rfl rfl rfl rfl rfl rfl) zd264_112 zxt219 rfl (by decide) (by decide) rfl ?_
            obtain ⟨c13, h⟩ := zi_if h
            have hw := Option.some.inj h
            subst hw
            exact hret _ _ _ _ _ zd264_115 (zi_bo_ok c13) ⟨rfl, rfl, rfl⟩
        · rw [if_pos hc8] at h
          refine zv_ald hB zd264_89 rfl rfl rfl ?_
          refine zv_con hB zd264_90 rfl ?_
          refine zv_ald hB zd264_91 rfl rfl rfl ?_
          refine zv_getf hB zd264_92 rfl rfl (fun _ _ => ?_)
          obtain ⟨r14, hr14, h⟩ := zi_bind h
          refine zv_cv hB (zv_emq (va2 := [.inr 0, .inl 3, .inl (zi_w (f0 + 1))]) (F := [.inl (zi_w (f0 + 1)), .inl f1, .inl f2, .inl f3]) (F' := [.inl (zi_w (f0 + 1)), .inl f1, .inl f2, .inl r14.2]) (G := [g0, g1, g2]) (G' := [g0, g1, g2]) (ρ := [0]) (φ := [3]) (ψ := []) [none, none, none, some 0] [none, none, none] zyw_M_wrongAt zyw_M_readsTaleLine zye_M_readsTaleLine (by decide +kernel) (zt_M_wrongAt hr14) ⟨⟨_, rfl, fun _ => rfl⟩, trivial⟩ trivial rfl rfl rfl rfl rfl rfl rfl) zd264_95 zxt219 rfl (by decide) (by decide) rfl ?_
          obtain ⟨c15, h⟩ := zi_if h
          have hw := Option.some.inj h
          subst hw
          exact hret _ _ _ _ _ zd264_98 (zi_bo_ok c15) ⟨rfl, rfl, rfl⟩
      · rw [if_pos hc6] at h
        refine zv_ald hB zd264_66 rfl rfl rfl ?_
        refine zv_con hB zd264_67 rfl ?_
        refine zv_ald hB zd264_68 rfl rfl rfl ?_
        refine zv_getf hB zd264_69 rfl rfl (fun _ _ => ?_)
        obtain ⟨r16, hr16, h⟩ := zi_bind h
        refine zv_cv hB (zv_emq (va2 := [.inr 0, .inl 1, .inl (zi_w (f0 + 1))]) (F := [.inl (zi_w (f0 + 1)), .inl f1, .inl f2, .inl f3]) (F' := [.inl (zi_w (f0 + 1)), .inl f1, .inl f2, .inl r16.2]) (G := [g0, g1, g2]) (G' := [g0, g1, g2]) (ρ := [0]) (φ := [3]) (ψ := []) [none, none, none, some 0] [none, none, none] zyw_M_wrongAt zyw_M_readsTaleLine zye_M_readsTaleLine (by decide +kernel) (zt_M_wrongAt hr16) ⟨⟨_, rfl, fun _ => rfl⟩, trivial⟩ trivial rfl rfl rfl rfl rfl rfl rfl) zd264_72 zxt219 rfl (by decide) (by decide) rfl ?_
        obtain ⟨c17, h⟩ := zi_if h
        have hw := Option.some.inj h
        subst hw
        exact hret _ _ _ _ _ zd264_75 (zi_bo_ok c17) ⟨rfl, rfl, rfl⟩
    · rw [if_pos hc3] at h
      refine zv_ald hB zd264_31 rfl rfl rfl ?_
      refine zv_con hB zd264_32 rfl ?_
      refine zv_ald hB zd264_33 rfl rfl rfl ?_
      refine zv_getf hB zd264_34 rfl rfl (fun _ _ => ?_)
      obtain ⟨r18, hr18, h⟩ := zi_bind h
      refine zv_cv hB (zv_emq (va2 := [.inr 0, .inl 4, .inl f0]) (F := [.inl f0, .inl f1, .inl f2, .inl f3]) (F' := [.inl f0, .inl f1, .inl f2, .inl r18.2]) (G := [g0, g1, g2]) (G' := [g0, g1, g2]) (ρ := [0]) (φ := [3]) (ψ := []) [none, none, none, some 0] [none, none, none] zyw_M_wrongAt zyw_M_readsTaleLine zye_M_readsTaleLine (by decide +kernel) (zt_M_wrongAt hr18) ⟨⟨_, rfl, fun _ => rfl⟩, trivial⟩ trivial rfl rfl rfl rfl rfl rfl rfl) zd264_37 zxt219 rfl (by decide) (by decide) rfl ?_
      obtain ⟨c19, h⟩ := zi_if h
      have hw := Option.some.inj h
      subst hw
      exact hret _ _ _ _ _ zd264_40 (zi_bo_ok c19) ⟨rfl, rfl, rfl⟩
  · rw [if_pos hc2] at h
    refine zv_ald hB zd264_12 rfl rfl rfl ?_
    refine zv_con hB zd264_13 rfl ?_
    refine zv_ald hB zd264_14 rfl rfl rfl ?_
    refine zv_getf hB zd264_15 rfl rfl (fun _ _ => ?_)
    obtain ⟨r20, hr20, h⟩ := zi_bind h
    refine zv_cv hB (zv_emq (va2 := [.inr 0, .inl 1, .inl f0]) (F := [.inl f0, .inl f1, .inl f2, .inl f3]) (F' := [.inl f0, .inl f1, .inl f2, .inl r20.2]) (G := [g0, g1, g2]) (G' := [g0, g1, g2]) (ρ := [0]) (φ := [3]) (ψ := []) [none, none, none, some 0] [none, none, none] zyw_M_wrongAt zyw_M_readsTaleLine zye_M_readsTaleLine (by decide +kernel) (zt_M_wrongAt hr20) ⟨⟨_, rfl, fun _ => rfl⟩, trivial⟩ trivial rfl rfl rfl rfl rfl rfl rfl) zd264_18 zxt219 rfl (by decide) (by decide) rfl ?_
    obtain ⟨c21, h⟩ := zi_if h
    have hw := Option.some.inj h
    subst hw
    exact hret _ _ _ _ _ zd264_21 (zi_bo_ok c21) ⟨rfl, rfl, rfl⟩
/-! M_tale (I)I -/
-- names: 0 StarTalesModel('arg', 0), 1 (1, 220)(0, 12, 3), 2 (0, 12)(0, 12, 36), 3 (0, 12)(0, 12, 37), 4 (0, 12)(0, 12, 34), 5 (0, 12)(0, 12, 35)
-- fields: f0 = 0.taped_, f1 = 0.place0_, f2 = 0.length0_, f3 = 0.newLines_, f4 = 0.fault_, f5 = 0.taleLines_, f6 = 0.namesIn_; arrays: g0 = 1, g1 = 2, g2 = 3, g3 = 4, g4 = 5; out: [('ret', None), ('f', 0), ('f', 1), ('f', 2), ('f', 3), ('f', 4), ('f', 5), ('f', 6), ('g', 1), ('g', 2), ('g', 3), ('g', 4)]
abbrev zy_M_tale : zNL := (6, [(0, 12)], [(0, 12, 4, 0), (0, 12, 5, 1), (0, 12, 6, 2), (0, 12, 32, 3), (0, 12, 7, 4), (0, 12, 31, 5), (0, 12, 33, 6)], [(0, 12, 3, 1), (0, 12, 36, 2), (0, 12, 37, 3), (0, 12, 34, 4), (0, 12, 35, 5)], [(1, 1, 220, 0), (2, 0, 12, 1), (3, 0, 12, 2), (4, 0, 12, 3), (5, 0, 12, 4)])
theorem zyw_M_tale : zv_wf zy_M_tale = true := by decide +kernel
theorem zye_M_tale : zv_ek2 zy_M_tale = true := by decide +kernel
def zf_M_tale_l0_b (f2 : Int) (g0 : (Int → Int)) (rec : Int → Int → Int → Int → (Int → Int) → (Int → Int) → Option (Int × Int × Int × Int × (Int → Int) × (Int → Int))) (x2 : Int) (f1 : Int) (f3 : Int) (f4 : Int) (g1 : (Int → Int)) (g2 : (Int → Int)) : Option (Int × Int × Int × Int × (Int → Int) × (Int → Int)) := if x2 = 0 then (some (x2, f1, f3, f4, g1, g2)) else (if f1 < f2 then ((zf_M_takes 59 f1 f2 f4 g0).bind fun r7 => (if r7.1 = 0 then (rec 0 r7.2.1 f3 r7.2.2 g1 g2) else ((zf_M_readsTaleLine r7.2.1 f2 f3 r7.2.2 g0 g1 g2).bind fun r9 => (if r9.1 = 0 then (rec 0 r9.2.1 r9.2.2.1 r9.2.2.2.1 r9.2.2.2.2.1 r9.2.2.2.2.2) else (rec 1 r9.2.1 r9.2.2.1 r9.2.2.2.1 r9.2.2.2.2.1 r9.2.2.2.2.2))))) else (some (x2, f1, f3, f4, g1, g2)))
def zf_M_tale_l0 (f2 : Int) (g0 : (Int → Int)) : Nat → Int → Int → Int → Int → (Int → Int) → (Int → Int) → Option (Int × Int × Int × Int × (Int → Int) × (Int → Int))
  | 0, _, _, _, _, _, _ => none
  | n + 1, x2, f1, f3, f4, g1, g2 => zf_M_tale_l0_b f2 g0 (zf_M_tale_l0 f2 g0 n) x2 f1 f3 f4 g1 g2
def zf_M_tale_l1_b (f5 : Int) (g1 : (Int → Int)) (g2 : (Int → Int)) (rec : Int → Int → (Int → Int) → (Int → Int) → Option (Int × (Int → Int) × (Int → Int))) (x3 : Int) (f6 : Int) (g3 : (Int → Int)) (g4 : (Int → Int)) : Option (Int × (Int → Int) × (Int → Int)) := if x3 < f5 then (cond (zi_ix x3 12) (rec (zi_w (x3 + 1)) (zi_or (zi_or f6 (zi_shl 1 ((zv_up g3 x3 (g1 x3)) x3))) (zi_shl 1 ((zv_up g4 x3 (g2 x3)) x3))) (zv_up g3 x3 (g1 x3)) (zv_up g4 x3 (g2 x3))) none) else (some (f6, g3, g4))
def zf_M_tale_l1 (f5 : Int) (g1 : (Int → Int)) (g2 : (Int → Int)) : Nat → Int → Int → (Int → Int) → (Int → Int) → Option (Int × (Int → Int) × (Int → Int))
  | 0, _, _, _, _ => none
  | n + 1, x3, f6, g3, g4 => zf_M_tale_l1_b f5 g1 g2 (zf_M_tale_l1 f5 g1 g2 n) x3 f6 g3 g4
def zf_M_tale (x1 : Int) (f0 : Int) (f1 : Int) (f2 : Int) (f3 : Int) (f4 : Int) (f5 : Int) (f6 : Int) (g0 : (Int → Int)) (g1 : (Int → Int)) (g2 : (Int → Int)) (g3 : (Int → Int)) (g4 : (Int → Int)) : Option (Int × Int × Int × Int × Int × Int × Int × Int × (Int → Int) × (Int → Int) × (Int → Int) × (Int → Int)) := (zf_M_in x1 1 60).bind fun r1 => (if r1 = 0 then (some ((-1), f0, f1, f2, f3, f4, f5, f6, g1, g2, g3, g4)) else (if f0 < x1 then (some ((-1), f0, f1, f2, f3, f4, f5, f6, g1, g2, g3, g4)) else ((zf_M_readsTaleLine 0 x1 0 f4 g0 g1 g2).bind fun r4 => ((zf_M_tale_l0 x1 g0 zi_fu r4.1 r4.2.1 r4.2.2.1 r4.2.2.2.1 r4.2.2.2.2.1 r4.2.2.2.2.2).bind fun q11 => (if q11.1 = 0 then (some (q11.2.2.2.1, 0, q11.2.1, x1, q11.2.2.1, q11.2.2.2.1, f5, f6, q11.2.2.2.2.1, q11.2.2.2.2.2, g3, g4)) else ((zf_M_tale_l1 q11.2.2.1 q11.2.2.2.2.1 q11.2.2.2.2.2 zi_fu 0 0 g3 g4).bind fun q15 => (some (q11.2.2.1, 0, q11.2.1, x1, q11.2.2.1, q11.2.2.2.1, q11.2.2.1, q15.1, q11.2.2.2.2.1, q11.2.2.2.2.2, q15.2.1, q15.2.2))))))))
theorem zd263_0 : decode zxm263.2.1 0 = .ok (.iload_n 1, 1) := by decide +kernel
theorem zd263_1 : decode zxm263.2.1 1 = .ok (.iconst 1, 1) := by decide +kernel
theorem zd263_2 : decode zxm263.2.1 2 = .ok (.bipush 60, 2) := by decide +kernel
theorem zd263_4 : decode zxm263.2.1 4 = .ok (.invokestatic 150, 3) := by decide +kernel
theorem zd263_7 : decode zxm263.2.1 7 = .ok (.ifCond .eq 11, 3) := by decide +kernel
theorem zd263_10 : decode zxm263.2.1 10 = .ok (.iload_n 1, 1) := by decide +kernel
theorem zd263_11 : decode zxm263.2.1 11 = .ok (.aload_n 0, 1) := by decide +kernel
theorem zd263_12 : decode zxm263.2.1 12 = .ok (.getfield 168, 3) := by decide +kernel
theorem zd263_15 : decode zxm263.2.1 15 = .ok (.if_icmp .le 5, 3) := by decide +kernel
theorem zd263_18 : decode zxm263.2.1 18 = .ok (.iconst (-1), 1) := by decide +kernel
theorem zd263_19 : decode zxm263.2.1 19 = .ok (.ireturn, 1) := by decide +kernel
theorem zd263_20 : decode zxm263.2.1 20 = .ok (.aload_n 0, 1) := by decide +kernel
theorem zd263_21 : decode zxm263.2.1 21 = .ok (.iconst 0, 1) := by decide +kernel
theorem zd263_22 : decode zxm263.2.1 22 = .ok (.putfield 176, 3) := by decide +kernel
theorem zd263_25 : decode zxm263.2.1 25 = .ok (.aload_n 0, 1) := by decide +kernel
theorem zd263_26 : decode zxm263.2.1 26 = .ok (.iload_n 1, 1) := by decide +kernel
theorem zd263_27 : decode zxm263.2.1 27 = .ok (.putfield 179, 3) := by decide +kernel
theorem zd263_30 : decode zxm263.2.1 30 = .ok (.aload_n 0, 1) := by decide +kernel
theorem zd263_31 : decode zxm263.2.1 31 = .ok (.iconst 0, 1) := by decide +kernel
theorem zd263_32 : decode zxm263.2.1 32 = .ok (.putfield 339, 3) := by decide +kernel
theorem zd263_35 : decode zxm263.2.1 35 = .ok (.aload_n 0, 1) := by decide +kernel
theorem zd263_36 : decode zxm263.2.1 36 = .ok (.invokevirtual 348, 3) := by decide +kernel
theorem zd263_39 : decode zxm263.2.1 39 = .ok (.istore_n 2, 1) := by decide +kernel
theorem zd263_40 : decode zxm263.2.1 40 = .ok (.iload_n 2, 1) := by decide +kernel
theorem zd263_41 : decode zxm263.2.1 41 = .ok (.ifCond .eq 39, 3) := by decide +kernel
theorem zd263_44 : decode zxm263.2.1 44 = .ok (.aload_n 0, 1) := by decide +kernel
theorem zd263_45 : decode zxm263.2.1 45 = .ok (.getfield 176, 3) := by decide +kernel
theorem zd263_48 : decode zxm263.2.1 48 = .ok (.aload_n 0, 1) := by decide +kernel
theorem zd263_49 : decode zxm263.2.1 49 = .ok (.getfield 179, 3) := by decide +kernel
theorem zd263_52 : decode zxm263.2.1 52 = .ok (.if_icmp .ge 28, 3) := by decide +kernel
theorem zd263_55 : decode zxm263.2.1 55 = .ok (.aload_n 0, 1) := by decide +kernel
theorem zd263_56 : decode zxm263.2.1 56 = .ok (.bipush 59, 2) := by decide +kernel
theorem zd263_58 : decode zxm263.2.1 58 = .ok (.invokevirtual 265, 3) := by decide +kernel
theorem zd263_61 : decode zxm263.2.1 61 = .ok (.ifCond .eq 14, 3) := by decide +kernel
theorem zd263_64 : decode zxm263.2.1 64 = .ok (.aload_n 0, 1) := by decide +kernel
theorem zd263_65 : decode zxm263.2.1 65 = .ok (.invokevirtual 348, 3) := by decide +kernel
theorem zd263_68 : decode zxm263.2.1 68 = .ok (.ifCond .eq 7, 3) := by decide +kernel
theorem zd263_71 : decode zxm263.2.1 71 = .ok (.iconst 1, 1) := by decide +kernel
theorem zd263_72 : decode zxm263.2.1 72 = .ok (.goto 4, 3) := by decide +kernel
theorem zd263_75 : decode zxm263.2.1 75 = .ok (.iconst 0, 1) := by decide +kernel
theorem zd263_76 : decode zxm263.2.1 76 = .ok (.istore_n 2, 1) := by decide +kernel
theorem zd263_77 : decode zxm263.2.1 77 = .ok (.goto (-37), 3) := by decide +kernel
theorem zd263_80 : decode zxm263.2.1 80 = .ok (.aload_n 0, 1) := by decide +kernel
theorem zd263_81 : decode zxm263.2.1 81 = .ok (.iconst 0, 1) := by decide +kernel
theorem zd263_82 : decode zxm263.2.1 82 = .ok (.putfield 168, 3) := by decide +kernel
theorem zd263_85 : decode zxm263.2.1 85 = .ok (.iload_n 2, 1) := by decide +kernel
theorem zd263_86 : decode zxm263.2.1 86 = .ok (.ifCond .ne 8, 3) := by decide +kernel
theorem zd263_89 : decode zxm263.2.1 89 = .ok (.aload_n 0, 1) := by decide +kernel
theorem zd263_90 : decode zxm263.2.1 90 = .ok (.getfield 186, 3) := by decide +kernel
theorem zd263_93 : decode zxm263.2.1 93 = .ok (.ireturn, 1) := by decide +kernel
theorem zd263_94 : decode zxm263.2.1 94 = .ok (.aload_n 0, 1) := by decide +kernel
theorem zd263_95 : decode zxm263.2.1 95 = .ok (.aload_n 0, 1) := by decide +kernel
theorem zd263_96 : decode zxm263.2.1 96 = .ok (.getfield 339, 3) := by decide +kernel
theorem zd263_99 : decode zxm263.2.1 99 = .ok (.putfield 351, 3) := by decide +kernel
theorem zd263_102 : decode zxm263.2.1 102 = .ok (.aload_n 0, 1) := by decide +kernel
theorem zd263_103 : decode zxm263.2.1 103 = .ok (.iconst 0, 1) := by decide +kernel
theorem zd263_104 : decode zxm263.2.1 104 = .ok (.putfield 354, 3) := by decide +kernel
theorem zd263_107 : decode zxm263.2.1 107 = .ok (.iconst 0, 1) := by decide +kernel
theorem zd263_108 : decode zxm263.2.1 108 = .ok (.istore_n 3, 1) := by decide +kernel
theorem zd263_109 : decode zxm263.2.1 109 = .ok (.iload_n 3, 1) := by decide +kernel
theorem zd263_110 : decode zxm263.2.1 110 = .ok (.aload_n 0, 1) := by decide +kernel
theorem zd263_111 : decode zxm263.2.1 111 = .ok (.getfield 351, 3) := by decide +kernel
theorem zd263_114 : decode zxm263.2.1 114 = .ok (.if_icmp .ge 59, 3) := by decide +kernel
theorem zd263_117 : decode zxm263.2.1 117 = .ok (.aload_n 0, 1) := by decide +kernel
theorem zd263_118 : decode zxm263.2.1 118 = .ok (.getfield 65, 3) := by decide +kernel
theorem zd263_121 : decode zxm263.2.1 121 = .ok (.iload_n 3, 1) := by decide +kernel
theorem zd263_122 : decode zxm263.2.1 122 = .ok (.aload_n 0, 1) := by decide +kernel
theorem zd263_123 : decode zxm263.2.1 123 = .ok (.getfield 71, 3) := by decide +kernel
theorem zd263_126 : decode zxm263.2.1 126 = .ok (.iload_n 3, 1) := by decide +kernel
theorem zd263_127 : decode zxm263.2.1 127 = .ok (.iaload, 1) := by decide +kernel
theorem zd263_128 : decode zxm263.2.1 128 = .ok (.iastore, 1) := by decide +kernel
theorem zd263_129 : decode zxm263.2.1 129 = .ok (.aload_n 0, 1) := by decide +kernel
theorem zd263_130 : decode zxm263.2.1 130 = .ok (.getfield 68, 3) := by decide +kernel
theorem zd263_133 : decode zxm263.2.1 133 = .ok (.iload_n 3, 1) := by decide +kernel
theorem zd263_134 : decode zxm263.2.1 134 = .ok (.aload_n 0, 1) := by decide +kernel
theorem zd263_135 : decode zxm263.2.1 135 = .ok (.getfield 74, 3) := by decide +kernel
theorem zd263_138 : decode zxm263.2.1 138 = .ok (.iload_n 3, 1) := by decide +kernel
theorem zd263_139 : decode zxm263.2.1 139 = .ok (.iaload, 1) := by decide +kernel
theorem zd263_140 : decode zxm263.2.1 140 = .ok (.iastore, 1) := by decide +kernel
theorem zd263_141 : decode zxm263.2.1 141 = .ok (.aload_n 0, 1) := by decide +kernel
theorem zd263_142 : decode zxm263.2.1 142 = .ok (.aload_n 0, 1) := by decide +kernel
theorem zd263_143 : decode zxm263.2.1 143 = .ok (.getfield 354, 3) := by decide +kernel
theorem zd263_146 : decode zxm263.2.1 146 = .ok (.iconst 1, 1) := by decide +kernel
theorem zd263_147 : decode zxm263.2.1 147 = .ok (.aload_n 0, 1) := by decide +kernel
theorem zd263_148 : decode zxm263.2.1 148 = .ok (.getfield 65, 3) := by decide +kernel
theorem zd263_151 : decode zxm263.2.1 151 = .ok (.iload_n 3, 1) := by decide +kernel
theorem zd263_152 : decode zxm263.2.1 152 = .ok (.iaload, 1) := by decide +kernel
theorem zd263_153 : decode zxm263.2.1 153 = .ok (.ishl, 1) := by decide +kernel
theorem zd263_154 : decode zxm263.2.1 154 = .ok (.ior, 1) := by decide +kernel
theorem zd263_155 : decode zxm263.2.1 155 = .ok (.iconst 1, 1) := by decide +kernel
theorem zd263_156 : decode zxm263.2.1 156 = .ok (.aload_n 0, 1) := by decide +kernel
theorem zd263_157 : decode zxm263.2.1 157 = .ok (.getfield 68, 3) := by decide +kernel
theorem zd263_160 : decode zxm263.2.1 160 = .ok (.iload_n 3, 1) := by decide +kernel
theorem zd263_161 : decode zxm263.2.1 161 = .ok (.iaload, 1) := by decide +kernel
theorem zd263_162 : decode zxm263.2.1 162 = .ok (.ishl, 1) := by decide +kernel
theorem zd263_163 : decode zxm263.2.1 163 = .ok (.ior, 1) := by decide +kernel
theorem zd263_164 : decode zxm263.2.1 164 = .ok (.putfield 354, 3) := by decide +kernel
theorem zd263_167 : decode zxm263.2.1 167 = .ok (.iinc 3 1, 3) := by decide +kernel
theorem zd263_170 : decode zxm263.2.1 170 = .ok (.goto (-61), 3) := by decide +kernel
theorem zd263_173 : decode zxm263.2.1 173 = .ok (.aload_n 0, 1) := by decide +kernel
theorem zd263_174 : decode zxm263.2.1 174 = .ok (.getfield 351, 3) := by decide +kernel
theorem zd263_177 : decode zxm263.2.1 177 = .ok (.ireturn, 1) := by decide +kernel
theorem zt_M_tale {x1 : Int} {f0 : Int} {f1 : Int} {f2 : Int} {f3 : Int} {f4 : Int} {f5 : Int} {f6 : Int} {g0 : (Int → Int)} {g1 : (Int → Int)} {g2 : (Int → Int)} {g3 : (Int → Int)} {g4 : (Int → Int)} {o : Int × Int × Int × Int × Int × Int × Int × Int × (Int → Int) × (Int → Int) × (Int → Int) × (Int → Int)} (h : zf_M_tale x1 f0 f1 f2 f3 f4 f5 f6 g0 g1 g2 g3 g4 = some o) : zv_Fn z_TB z_cl z_KX zy_M_tale zxm263 (3, 180) [.inr 0, .inl x1] [.inl f0, .inl f1, .inl f2, .inl f3, .inl f4, .inl f5, .inl f6] [g0, g1, g2, g3, g4] (some o.1) [.inl o.2.1, .inl o.2.2.1, .inl o.2.2.2.1, .inl o.2.2.2.2.1, .inl o.2.2.2.2.2.1, .inl o.2.2.2.2.2.2.1, .inl o.2.2.2.2.2.2.2.1] [g0, o.2.2.2.2.2.2.2.2.1, o.2.2.2.2.2.2.2.2.2.1, o.2.2.2.2.2.2.2.2.2.2.1, o.2.2.2.2.2.2.2.2.2.2.2] := zv_meth (K := (z_KF13, z_KC13, z_KL13, z_KT13, [], [], [], none)) (FT := z_FT) (MT := z_MT) (n := 2) zxp263 (z_ks13 _ (fun _ h => List.mem_cons_of_mem _ h) _ _ _ _ (fun j r h _ => by cases h)) (fun _ _ => zs_KX_p) zyw_M_tale (fun va F G h => by obtain ⟨rfl, _⟩ := h; rfl) (fun va F G h => by obtain ⟨rfl, _⟩ := h; rfl) rfl fun good va F G hB hret hvret hP => by
  obtain ⟨rfl, rfl, rfl⟩ := hP
  have l0 : ∀ (n : Nat) (x2 : Int) (f0 : Int) (f1 : Int) (f2 : Int) (f3 : Int) (f4 : Int) (f5 : Int) (f6 : Int) (g1 : (Int → Int)) (g2 : (Int → Int)) (g3 : (Int → Int)) (g4 : (Int → Int)) (q : Int × Int × Int × Int × (Int → Int) × (Int → Int)), zf_M_tale_l0 f2 g0 n x2 f1 f3 f4 g1 g2 = some q → (good 80 [.inr 0, .inr 1000, .inl q.1, .inr 1000] [] [.inl f0, .inl q.2.1, .inl f2, .inl q.2.2.1, .inl q.2.2.2.1, .inl f5, .inl f6] [g0, q.2.2.2.2.1, q.2.2.2.2.2, g3, g4]) → good 40 [.inr 0, .inr 1000, .inl x2, .inr 1000] [] [.inl f0, .inl f1, .inl f2, .inl f3, .inl f4, .inl f5, .inl f6] [g0, g1, g2, g3, g4] := by
    intro n
    induction n with
    | zero => intro x2 f0 f1 f2 f3 f4 f5 f6 g1 g2 g3 g4 q h; exact absurd (show none = some q from h) (fun h => by cases h)
    | succ n ih =>
      intro x2 f0 f1 f2 f3 f4 f5 f6 g1 g2 g3 g4 q h hK
      replace h : zf_M_tale_l0_b f2 g0 (zf_M_tale_l0 f2 g0 n) x2 f1 f3 f4 g1 g2 = some q := h
      unfold zf_M_tale_l0_b at h
      refine zv_ild hB zd263_40 rfl rfl ?_
      refine zv_zeq hB zd263_41 rfl (fun hc5 => ?_) (fun hc5 => ?_)
      · rw [if_pos hc5] at h
        have hq := Option.some.inj h
        subst hq
        exact hK
      · rw [if_neg hc5] at h
        refine zv_ald hB zd263_44 rfl rfl rfl ?_
        refine zv_getf hB zd263_45 rfl rfl (fun _ _ => ?_)
        refine zv_ald hB zd263_48 rfl rfl rfl ?_
        refine zv_getf hB zd263_49 rfl rfl (fun _ _ => ?_)
        refine zv_cge hB zd263_52 rfl (fun hc6 => ?_) (fun hc6 => ?_)
        · rw [if_neg (Int.not_lt.mpr hc6)] at h
          have hq := Option.some.inj h
          subst hq
          exact hK
        · rw [if_pos hc6] at h
          refine zv_ald hB zd263_55 rfl rfl rfl ?_
          refine zv_con hB zd263_56 rfl ?_
          obtain ⟨r7, hr7, h⟩ := zi_bind h
          refine zv_cv hB (zv_emq (va2 := [.inr 0, .inl 59]) (F := [.inl f0, .inl f1, .inl f2, .inl f3, .inl f4, .inl f5, .inl f6]) (F' := [.inl f0, .inl r7.2.1, .inl f2, .inl f3, .inl r7.2.2, .inl f5, .inl f6]) (G := [g0, g1, g2, g3, g4]) (G' := [g0, g1, g2, g3, g4]) (ρ := [0, 1]) (φ := [1, 2, 4]) (ψ := [0]) [none, some 0, some 1, none, some 2, none, none] [some 0, none, none, none, none] zyw_M_takes zyw_M_tale zye_M_tale (by decide +kernel) (zt_M_takes hr7) ⟨⟨_, rfl, fun _ => rfl⟩, ⟨_, rfl, fun _ => rfl⟩, ⟨_, rfl, fun _ => rfl⟩, trivial⟩ ⟨rfl, trivial⟩ rfl rfl rfl rfl rfl rfl rfl) zd263_58 zxt236 rfl (by decide) (by decide) rfl ?_
          refine zv_zeq hB zd263_61 rfl (fun hc8 => ?_) (fun hc8 => ?_)
          · rw [if_pos hc8] at h
            refine zv_con hB zd263_75 rfl ?_
            refine zv_ist hB zd263_76 rfl rfl rfl ?_
            refine zv_goto hB zd263_77 rfl ?_
            exact ih _ _ _ _ _ _ _ _ _ _ _ _ q h hK
          · rw [if_neg hc8] at h
            refine zv_ald hB zd263_64 rfl rfl rfl ?_
            obtain ⟨r9, hr9, h⟩ := zi_bind h
            refine zv_cv hB (zv_emq (va2 := [.inr 0]) (F := [.inl f0, .inl r7.2.1, .inl f2, .inl f3, .inl r7.2.2, .inl f5, .inl f6]) (F' := [.inl f0, .inl r9.2.1, .inl f2, .inl r9.2.2.1, .inl r9.2.2.2.1, .inl f5, .inl f6]) (G := [g0, g1, g2, g3, g4]) (G' := [g0, r9.2.2.2.2.1, r9.2.2.2.2.2, g3, g4]) (ρ := [0, 1, 2, 3]) (φ := [1, 2, 3, 4]) (ψ := [0, 1, 2]) [none, some 0, some 1, some 2, some 3, none, none] [some 0, some 1, some 2, none, none] zyw_M_readsTaleLine zyw_M_tale zye_M_tale (by decide +kernel) (zt_M_readsTaleLine hr9) ⟨⟨_, rfl, fun _ => rfl⟩, ⟨_, rfl, fun _ => rfl⟩, ⟨_, rfl, fun _ => rfl⟩, ⟨_, rfl, fun _ => rfl⟩, trivial⟩ ⟨rfl, rfl, rfl, trivial⟩ rfl rfl rfl rfl rfl rfl rfl) zd263_65 zxt264 rfl (by decide) (by decide) rfl ?_
            refine zv_zeq hB zd263_68 rfl (fun hc10 => ?_) (fun hc10 => ?_)
            · rw [if_pos hc10] at h
              refine zv_con hB zd263_75 rfl ?_
              refine zv_ist hB zd263_76 rfl rfl rfl ?_
              refine zv_goto hB zd263_77 rfl ?_
              exact ih _ _ _ _ _ _ _ _ _ _ _ _ q h hK
            · rw [if_neg hc10] at h
              refine zv_con hB zd263_71 rfl ?_
              refine zv_goto hB zd263_72 rfl ?_
              refine zv_ist hB zd263_76 rfl rfl rfl ?_
              refine zv_goto hB zd263_77 rfl ?_
              exact ih _ _ _ _ _ _ _ _ _ _ _ _ q h hK
  have l1 : ∀ (n : Nat) (x3 : Int) (f0 : Int) (f1 : Int) (f2 : Int) (f3 : Int) (f4 : Int) (f5 : Int) (f6 : Int) (g1 : (Int → Int)) (g2 : (Int → Int)) (g3 : (Int → Int)) (g4 : (Int → Int)) (q : Int × (Int → Int) × (Int → Int)), zf_M_tale_l1 f5 g1 g2 n x3 f6 g3 g4 = some q → (good 173 [.inr 0, .inr 1000, .inr 1000, .inr 1000] [] [.inl f0, .inl f1, .inl f2, .inl f3, .inl f4, .inl f5, .inl q.1] [g0, g1, g2, q.2.1, q.2.2]) → good 109 [.inr 0, .inr 1000, .inr 1000, .inl x3] [] [.inl f0, .inl f1, .inl f2, .inl f3, .inl f4, .inl f5, .inl f6] [g0, g1, g2, g3, g4] := by
    intro n
    induction n with
    | zero => intro x3 f0 f1 f2 f3 f4 f5 f6 g1 g2 g3 g4 q h; exact absurd (show none = some q from h) (fun h => by cases h)
    | succ n ih =>
      intro x3 f0 f1 f2 f3 f4 f5 f6 g1 g2 g3 g4 q h hK
      replace h : zf_M_tale_l1_b f5 g1 g2 (zf_M_tale_l1 f5 g1 g2 n) x3 f6 g3 g4 = some q := h
      unfold zf_M_tale_l1_b at h
      refine zv_ild hB zd263_109 rfl rfl ?_
      refine zv_ald hB zd263_110 rfl rfl rfl ?_
      refine zv_getf hB zd263_111 rfl rfl (fun _ _ => ?_)
      refine zv_cge hB zd263_114 rfl (fun hc13 => ?_) (fun hc13 => ?_)
      · rw [if_neg (Int.not_lt.mpr hc13)] at h
        have hq := Option.some.inj h
        subst hq
        refine zv_wk hB (L' := [.inr 0, .inr 1000, .inr 1000, .inr 1000]) (F' := [.inl f0, .inl f1, .inl f2, .inl f3, .inl f4, .inl f5, .inl f6]) ⟨fun _ => rfl, fun (h : zv_is (.inr 1000)) => (Nat.lt_irrefl 1000 h).elim, fun (h : zv_is (.inr 1000)) => (Nat.lt_irrefl 1000 h).elim, fun (h : zv_is (.inr 1000)) => (Nat.lt_irrefl 1000 h).elim, trivial⟩ ⟨fun _ => rfl, fun _ => rfl, fun _ => rfl, fun _ => rfl, fun _ => rfl, fun _ => rfl, fun _ => rfl, trivial⟩ ?_
        exact hK
      · rw [if_pos hc13] at h
        refine zv_ald hB zd263_117 rfl rfl rfl ?_
        refine zv_getr hB zd263_118 rfl ?_
        refine zv_ild hB zd263_121 rfl rfl ?_
        refine zv_ald hB zd263_122 rfl rfl rfl ?_
        refine zv_getr hB zd263_123 rfl ?_
        refine zv_ild hB zd263_126 rfl rfl ?_
        obtain ⟨c14, h⟩ := zi_if h
        refine zv_iald hB zd263_127 rfl rfl (zi_ix_ok c14).1 (zi_ix_ok c14).2 (fun _ _ => ?_)
        refine zv_iast hB zd263_128 rfl rfl (zi_ix_ok c14).1 (zi_ix_ok c14).2 ?_
        refine zv_ald hB zd263_129 rfl rfl rfl ?_
        refine zv_getr hB zd263_130 rfl ?_
        refine zv_ild hB zd263_133 rfl rfl ?_
        refine zv_ald hB zd263_134 rfl rfl rfl ?_
        refine zv_getr hB zd263_135 rfl ?_
        refine zv_ild hB zd263_138 rfl rfl ?_
        refine zv_iald hB zd263_139 rfl rfl (zi_ix_ok c14).1 (zi_ix_ok c14).2 (fun _ _ => ?_)
        refine zv_iast hB zd263_140 rfl rfl (zi_ix_ok c14).1 (zi_ix_ok c14).2 ?_
        refine zv_ald hB zd263_141 rfl rfl rfl ?_
        refine zv_ald hB zd263_142 rfl rfl rfl ?_
        refine zv_getf hB zd263_143 rfl rfl (fun _ _ => ?_)
        refine zv_con hB zd263_146 rfl ?_
        refine zv_ald hB zd263_147 rfl rfl rfl ?_
        refine zv_getr hB zd263_148 rfl ?_
        refine zv_ild hB zd263_151 rfl rfl ?_
        refine zv_iald hB zd263_152 rfl rfl (zi_ix_ok c14).1 (zi_ix_ok c14).2 (fun _ _ => ?_)
        refine zv_shlw hB zd263_153 ?_
        refine zv_orw hB zd263_154 ?_
        refine zv_con hB zd263_155 rfl ?_
        refine zv_ald hB zd263_156 rfl rfl rfl ?_
        refine zv_getr hB zd263_157 rfl ?_
        refine zv_ild hB zd263_160 rfl rfl ?_
        refine zv_iald hB zd263_161 rfl rfl (zi_ix_ok c14).1 (zi_ix_ok c14).2 (fun _ _ => ?_)
        refine zv_shlw hB zd263_162 ?_
        refine zv_orw hB zd263_163 ?_
        refine zv_putf hB zd263_164 rfl rfl (fun h => by cases h) rfl ?_
        refine zv_iincw hB zd263_167 rfl rfl ?_
        refine zv_goto hB zd263_170 rfl ?_
        exact ih _ _ _ _ _ _ _ _ _ _ _ _ q h hK
  unfold zf_M_tale at h
  refine zv_ild hB zd263_0 rfl rfl ?_
  refine zv_con hB zd263_1 rfl ?_
  refine zv_con hB zd263_2 rfl ?_
  obtain ⟨r1, hr1, h⟩ := zi_bind h
  refine zv_cs hB (zv_emq (va2 := [.inl x1, .inl 1, .inl 60]) (F := [.inl f0, .inl f1, .inl f2, .inl f3, .inl f4, .inl f5, .inl f6]) (F' := [.inl f0, .inl f1, .inl f2, .inl f3, .inl f4, .inl f5, .inl f6]) (G := [g0, g1, g2, g3, g4]) (G' := [g0, g1, g2, g3, g4]) (ρ := []) (φ := []) (ψ := []) [none, none, none, none, none, none, none] [none, none, none, none, none] zyw_M_in zyw_M_tale zye_M_tale (by decide +kernel) (zt_M_in hr1) trivial trivial rfl rfl rfl rfl rfl rfl rfl) zd263_4 zxt200 rfl (by decide) (by decide) rfl ?_
  refine zv_zeq hB zd263_7 rfl (fun hc2 => ?_) (fun hc2 => ?_)
  · rw [if_pos hc2] at h
    refine zv_con hB zd263_18 rfl ?_
    have hw := Option.some.inj h
    subst hw
    exact hret _ _ _ _ _ zd263_19 (by trivial) ⟨rfl, rfl, rfl⟩
  · rw [if_neg hc2] at h
    refine zv_ild hB zd263_10 rfl rfl ?_
    refine zv_ald hB zd263_11 rfl rfl rfl ?_
    refine zv_getf hB zd263_12 rfl rfl (fun _ _ => ?_)
    refine zv_cle hB zd263_15 rfl (fun hc3 => ?_) (fun hc3 => ?_)
    · rw [if_neg (Int.not_lt.mpr hc3)] at h
      refine zv_ald hB zd263_20 rfl rfl rfl ?_
      refine zv_con hB zd263_21 rfl ?_
      refine zv_putf hB zd263_22 rfl rfl (fun h => by cases h) rfl ?_
      refine zv_ald hB zd263_25 rfl rfl rfl ?_
      refine zv_ild hB zd263_26 rfl rfl ?_
      refine zv_putf hB zd263_27 rfl rfl (fun h => by cases h) rfl ?_
      refine zv_ald hB zd263_30 rfl rfl rfl ?_
      refine zv_con hB zd263_31 rfl ?_
      refine zv_putf hB zd263_32 rfl rfl (fun h => by cases h) rfl ?_
      refine zv_ald hB zd263_35 rfl rfl rfl ?_
      obtain ⟨r4, hr4, h⟩ := zi_bind h
      refine zv_cv hB (zv_emq (va2 := [.inr 0]) (F := [.inl f0, .inl 0, .inl x1, .inl 0, .inl f4, .inl f5, .inl f6]) (F' := [.inl f0, .inl r4.2.1, .inl x1, .inl r4.2.2.1, .inl r4.2.2.2.1, .inl f5, .inl f6]) (G := [g0, g1, g2, g3, g4]) (G' := [g0, r4.2.2.2.2.1, r4.2.2.2.2.2, g3, g4]) (ρ := [0, 1, 2, 3]) (φ := [1, 2, 3, 4]) (ψ := [0, 1, 2]) [none, some 0, some 1, some 2, some 3, none, none] [some 0, some 1, some 2, none, none] zyw_M_readsTaleLine zyw_M_tale zye_M_tale (by decide +kernel) (zt_M_readsTaleLine hr4) ⟨⟨_, rfl, fun _ => rfl⟩, ⟨_, rfl, fun _ => rfl⟩, ⟨_, rfl, fun _ => rfl⟩, ⟨_, rfl, fun _ => rfl⟩, trivial⟩ ⟨rfl, rfl, rfl, trivial⟩ rfl rfl rfl rfl rfl rfl rfl) zd263_36 zxt264 rfl (by decide) (by decide) rfl ?_
      refine zv_ist hB zd263_39 rfl rfl rfl ?_
      obtain ⟨q11, hq11, h⟩ := zi_bind h
      refine zv_wk hB (L' := [.inr 0, .inr 1000, .inl r4.1, .inr 1000]) (F' := [.inl f0, .inl r4.2.1, .inl x1, .inl r4.2.2.1, .inl r4.2.2.2.1, .inl f5, .inl f6]) ⟨fun _ => rfl, fun (h : zv_is (.inr 1000)) => (Nat.lt_irrefl 1000 h).elim, fun _ => rfl, fun (h : zv_is (.inr 1000)) => (Nat.lt_irrefl 1000 h).elim, trivial⟩ ⟨fun _ => rfl, fun _ => rfl, fun _ => rfl, fun _ => rfl, fun _ => rfl, fun _ => rfl, fun _ => rfl, trivial⟩ ?_
      refine l0 _ _ _ _ _ _ _ _ _ _ _ _ _ q11 hq11 ?_
      show good 80 [.inr 0, .inr 1000, .inl q11.1, .inr 1000] [] [.inl f0, .inl q11.2.1, .inl x1, .inl q11.2.2.1, .inl q11.2.2.2.1, .inl f5, .inl f6] [g0, q11.2.2.2.2.1, q11.2.2.2.2.2, g3, g4]
      refine zv_ald hB zd263_80 rfl rfl rfl ?_
      refine zv_con hB zd263_81 rfl ?_
      refine zv_putf hB zd263_82 rfl rfl (fun h => by cases h) rfl ?_
      refine zv_ild hB zd263_85 rfl rfl ?_
      refine zv_zne hB zd263_86 rfl (fun hc12 => ?_) (fun hc12 => ?_)
      · rw [if_neg hc12] at h
        refine zv_ald hB zd263_94 rfl rfl rfl ?_
        refine zv_ald hB zd263_95 rfl rfl rfl ?_
        refine zv_getf hB zd263_96 rfl rfl (fun _ _ => ?_)
        refine zv_putf hB zd263_99 rfl rfl (fun h => by cases h) rfl ?_
        refine zv_ald hB zd263_102 rfl rfl rfl ?_
        refine zv_con hB zd263_103 rfl ?_
        refine zv_putf hB zd263_104 rfl rfl (fun h => by cases h) rfl ?_
        refine zv_con hB zd263_107 rfl ?_
        refine zv_ist hB zd263_108 rfl rfl rfl ?_
        obtain ⟨q15, hq15, h⟩ := zi_bind h
        refine zv_wk hB (L' := [.inr 0, .inr 1000, .inr 1000, .inl 0]) (F' := [.inl 0, .inl q11.2.1, .inl x1, .inl q11.2.2.1, .inl q11.2.2.2.1, .inl q11.2.2.1, .inl 0]) ⟨fun _ => rfl, fun (h : zv_is (.inr 1000)) => (Nat.lt_irrefl 1000 h).elim, fun (h : zv_is (.inr 1000)) => (Nat.lt_irrefl 1000 h).elim, fun _ => rfl, trivial⟩ ⟨fun _ => rfl, fun _ => rfl, fun _ => rfl, fun _ => rfl, fun _ => rfl, fun _ => rfl, fun _ => rfl, trivial⟩ ?_
        refine l1 _ _ _ _ _ _ _ _ _ _ _ _ _ q15 hq15 ?_
        show good 173 [.inr 0, .inr 1000, .inr 1000, .inr 1000] [] [.inl 0, .inl q11.2.1, .inl x1, .inl q11.2.2.1, .inl q11.2.2.2.1, .inl q11.2.2.1, .inl q15.1] [g0, q11.2.2.2.2.1, q11.2.2.2.2.2, q15.2.1, q15.2.2]
        refine zv_ald hB zd263_173 rfl rfl rfl ?_
        refine zv_getf hB zd263_174 rfl rfl (fun _ _ => ?_)
        have hw := Option.some.inj h
        subst hw
        exact hret _ _ _ _ _ zd263_177 (by trivial) ⟨rfl, rfl, rfl⟩
      · rw [if_pos hc12] at h
        refine zv_ald hB zd263_89 rfl rfl rfl ?_
        refine zv_getf hB zd263_90 rfl rfl (fun _ _ => ?_)
        have hw := Option.some.inj h
        subst hw
        exact hret _ _ _ _ _ zd263_93 (by trivial) ⟨rfl, rfl, rfl⟩
    · rw [if_pos hc3] at h
      refine zv_con hB zd263_18 rfl ?_
      have hw := Option.some.inj h
      subst hw
      exact hret _ _ _ _ _ zd263_19 (by trivial) ⟨rfl, rfl, rfl⟩
/-! M_laysNames ()V -/
-- names: 0 StarTalesModel('arg', 0), 1 (0, 8)(0, 12, 38)
-- fields: f0 = 0.nameMany_, f1 = 0.namesIn_; arrays: g0 = 1; out: [('f', 0), ('g', 0)]
abbrev zy_M_laysNames : zNL := (2, [(0, 12)], [(0, 12, 41, 0), (0, 12, 33, 1)], [(0, 12, 38, 1)], [(1, 0, 8, 0)])
theorem zyw_M_laysNames : zv_wf zy_M_laysNames = true := by decide +kernel
theorem zye_M_laysNames : zv_ek2 zy_M_laysNames = true := by decide +kernel
def zf_M_laysNames_l0_b (f1 : Int) (rec : Int → Int → (Int → Int) → Option (Int × (Int → Int))) (x1 : Int) (f0 : Int) (g0 : (Int → Int)) : Option (Int × (Int → Int)) := if x1 < 8 then ((zf_M_has f1 x1).bind fun r2 => (if r2 = 0 then (rec (zi_w (x1 + 1)) f0 g0) else (cond (zi_ix f0 8) (rec (zi_w (x1 + 1)) (zi_w (f0 + 1)) (zv_up g0 f0 x1)) none))) else (some (f0, g0))
def zf_M_laysNames_l0 (f1 : Int) : Nat → Int → Int → (Int → Int) → Option (Int × (Int → Int))
  | 0, _, _, _ => none
  | n + 1, x1, f0, g0 => zf_M_laysNames_l0_b f1 (zf_M_laysNames_l0 f1 n) x1 f0 g0
def zf_M_laysNames (f0 : Int) (f1 : Int) (g0 : (Int → Int)) : Option (Int × (Int → Int)) := (zf_M_laysNames_l0 f1 zi_fu 0 0 g0).bind fun q5 => (some (q5.1, q5.2))
theorem zd269_0 : decode zxm269.2.1 0 = .ok (.aload_n 0, 1) := by decide +kernel
theorem zd269_1 : decode zxm269.2.1 1 = .ok (.iconst 0, 1) := by decide +kernel
theorem zd269_2 : decode zxm269.2.1 2 = .ok (.putfield 357, 3) := by decide +kernel
theorem zd269_5 : decode zxm269.2.1 5 = .ok (.iconst 0, 1) := by decide +kernel
theorem zd269_6 : decode zxm269.2.1 6 = .ok (.istore_n 1, 1) := by decide +kernel
theorem zd269_7 : decode zxm269.2.1 7 = .ok (.iload_n 1, 1) := by decide +kernel
theorem zd269_8 : decode zxm269.2.1 8 = .ok (.bipush 8, 2) := by decide +kernel
theorem zd269_10 : decode zxm269.2.1 10 = .ok (.if_icmp .ge 43, 3) := by decide +kernel
theorem zd269_13 : decode zxm269.2.1 13 = .ok (.aload_n 0, 1) := by decide +kernel
theorem zd269_14 : decode zxm269.2.1 14 = .ok (.getfield 354, 3) := by decide +kernel
theorem zd269_17 : decode zxm269.2.1 17 = .ok (.iload_n 1, 1) := by decide +kernel
theorem zd269_18 : decode zxm269.2.1 18 = .ok (.invokestatic 138, 3) := by decide +kernel
theorem zd269_21 : decode zxm269.2.1 21 = .ok (.ifCond .ne 6, 3) := by decide +kernel
theorem zd269_24 : decode zxm269.2.1 24 = .ok (.goto 23, 3) := by decide +kernel
theorem zd269_27 : decode zxm269.2.1 27 = .ok (.aload_n 0, 1) := by decide +kernel
theorem zd269_28 : decode zxm269.2.1 28 = .ok (.getfield 77, 3) := by decide +kernel
theorem zd269_31 : decode zxm269.2.1 31 = .ok (.aload_n 0, 1) := by decide +kernel
theorem zd269_32 : decode zxm269.2.1 32 = .ok (.getfield 357, 3) := by decide +kernel
theorem zd269_35 : decode zxm269.2.1 35 = .ok (.iload_n 1, 1) := by decide +kernel
theorem zd269_36 : decode zxm269.2.1 36 = .ok (.iastore, 1) := by decide +kernel
theorem zd269_37 : decode zxm269.2.1 37 = .ok (.aload_n 0, 1) := by decide +kernel
theorem zd269_38 : decode zxm269.2.1 38 = .ok (.aload_n 0, 1) := by decide +kernel
theorem zd269_39 : decode zxm269.2.1 39 = .ok (.getfield 357, 3) := by decide +kernel
theorem zd269_42 : decode zxm269.2.1 42 = .ok (.iconst 1, 1) := by decide +kernel
theorem zd269_43 : decode zxm269.2.1 43 = .ok (.iadd, 1) := by decide +kernel
theorem zd269_44 : decode zxm269.2.1 44 = .ok (.putfield 357, 3) := by decide +kernel
theorem zd269_47 : decode zxm269.2.1 47 = .ok (.iinc 1 1, 3) := by decide +kernel
theorem zd269_50 : decode zxm269.2.1 50 = .ok (.goto (-43), 3) := by decide +kernel
theorem zd269_53 : decode zxm269.2.1 53 = .ok (.return_, 1) := by decide +kernel
theorem zt_M_laysNames {f0 : Int} {f1 : Int} {g0 : (Int → Int)} {o : Int × (Int → Int)} (h : zf_M_laysNames f0 f1 g0 = some o) : zv_Fn z_TB z_cl z_KX zy_M_laysNames zxm269 (1, 60) [.inr 0] [.inl f0, .inl f1] [g0] none [.inl o.1, .inl f1] [o.2] := zv_meth (K := (z_KF13, z_KC13, z_KL13, z_KT13, [], [], [], none)) (FT := z_FT) (MT := z_MT) (n := 1) zxp269 (z_ks13 _ (fun _ h => List.mem_cons_of_mem _ h) _ _ _ _ (fun j r h _ => by cases h)) (fun _ _ => zs_KX_p) zyw_M_laysNames (fun va F G h => by obtain ⟨rfl, _⟩ := h; rfl) (fun va F G h => by obtain ⟨rfl, _⟩ := h; rfl) rfl fun good va F G hB hret hvret hP => by
  obtain ⟨rfl, rfl, rfl⟩ := hP
  have l0 : ∀ (n : Nat) (x1 : Int) (f0 : Int) (g0 : (Int → Int)) (q : Int × (Int → Int)), zf_M_laysNames_l0 f1 n x1 f0 g0 = some q → (good 53 [.inr 1000, .inr 1000] [] [.inl q.1, .inl f1] [q.2]) → good 7 [.inr 0, .inl x1] [] [.inl f0, .inl f1] [g0] := by
    intro n
    induction n with
    | zero => intro x1 f0 g0 q h; exact absurd (show none = some q from h) (fun h => by cases h)
    | succ n ih =>
      intro x1 f0 g0 q h hK
      replace h : zf_M_laysNames_l0_b f1 (zf_M_laysNames_l0 f1 n) x1 f0 g0 = some q := h
      unfold zf_M_laysNames_l0_b at h
      refine zv_ild hB zd269_7 rfl rfl ?_
      refine zv_con hB zd269_8 rfl ?_
      refine zv_cge hB zd269_10 rfl (fun hc1 => ?_) (fun hc1 => ?_)
      · rw [if_neg (Int.not_lt.mpr hc1)] at h
        have hq := Option.some.inj h
        subst hq
        refine zv_wk hB (L' := [.inr 1000, .inr 1000]) (F' := [.inl f0, .inl f1]) ⟨fun (h : zv_is (.inr 1000)) => (Nat.lt_irrefl 1000 h).elim, fun (h : zv_is (.inr 1000)) => (Nat.lt_irrefl 1000 h).elim, trivial⟩ ⟨fun _ => rfl, fun _ => rfl, trivial⟩ ?_
        exact hK
      · rw [if_pos hc1] at h
        refine zv_ald hB zd269_13 rfl rfl rfl ?_
        refine zv_getf hB zd269_14 rfl rfl (fun _ _ => ?_)
        refine zv_ild hB zd269_17 rfl rfl ?_
        obtain ⟨r2, hr2, h⟩ := zi_bind h
        refine zv_cs hB (zv_emq (va2 := [.inl f1, .inl x1]) (F := [.inl f0, .inl f1]) (F' := [.inl f0, .inl f1]) (G := [g0]) (G' := [g0]) (ρ := []) (φ := []) (ψ := []) [none, none] [none] zyw_M_has zyw_M_laysNames zye_M_laysNames (by decide +kernel) (zt_M_has hr2) trivial trivial rfl rfl rfl rfl rfl rfl rfl) zd269_18 zxt204 rfl (by decide) (by decide) rfl ?_
        refine zv_zne hB zd269_21 rfl (fun hc3 => ?_) (fun hc3 => ?_)
        · rw [if_neg hc3] at h
          refine zv_ald hB zd269_27 rfl rfl rfl ?_
          refine zv_getr hB zd269_28 rfl ?_
          refine zv_ald hB zd269_31 rfl rfl rfl ?_
          refine zv_getf hB zd269_32 rfl rfl (fun _ _ => ?_)
          refine zv_ild hB zd269_35 rfl rfl ?_
          obtain ⟨c4, h⟩ := zi_if h
          refine zv_iast hB zd269_36 rfl rfl (zi_ix_ok c4).1 (zi_ix_ok c4).2 ?_
          refine zv_ald hB zd269_37 rfl rfl rfl ?_
          refine zv_ald hB zd269_38 rfl rfl rfl ?_
          refine zv_getf hB zd269_39 rfl rfl (fun _ _ => ?_)
          refine zv_con hB zd269_42 rfl ?_
          refine zv_addw hB zd269_43 ?_
          refine zv_putf hB zd269_44 rfl rfl (fun h => by cases h) rfl ?_
          refine zv_iincw hB zd269_47 rfl rfl ?_
          refine zv_goto hB zd269_50 rfl ?_
          exact ih _ _ _ q h hK
        · rw [if_pos hc3] at h
          refine zv_goto hB zd269_24 rfl ?_
          refine zv_iincw hB zd269_47 rfl rfl ?_
          refine zv_goto hB zd269_50 rfl ?_
          exact ih _ _ _ q h hK
  unfold zf_M_laysNames at h
  refine zv_ald hB zd269_0 rfl rfl rfl ?_
  refine zv_con hB zd269_1 rfl ?_
  refine zv_putf hB zd269_2 rfl rfl (fun h => by cases h) rfl ?_
  refine zv_con hB zd269_5 rfl ?_
  refine zv_ist hB zd269_6 rfl rfl rfl ?_
  obtain ⟨q5, hq5, h⟩ := zi_bind h
  refine l0 _ _ _ _ q5 hq5 ?_
  show good 53 [.inr 1000, .inr 1000] [] [.inl q5.1, .inl f1] [q5.2]
  have hw := Option.some.inj h
  subst hw
  exact hvret _ _ _ _ zd269_53 trivial ⟨rfl, rfl, rfl⟩
end
