/-! 61q.dec, 61r.dec -/
section
/-! Methods as functions, and that they do what these do. -/
/-! X_over (II)I -/
-- names: 0 StarTales('arg', 0), 1 Sky(0, 0, 0), 2 (0, 24)(1, 1, 2), 3 (0, 24)(1, 1, 1)
-- fields: f0 = 1.told_; arrays: g0 = 2, g1 = 3; out: [('ret', None)]
abbrev zy_X_over : zNL := (4, [(0, 0), (1, 1)], [(1, 1, 0, 0)], [(0, 0, 0, 1), (1, 1, 2, 2), (1, 1, 1, 3)], [(2, 0, 24, 0), (3, 0, 24, 1)])
theorem zyw_X_over : zv_wf zy_X_over = true := by decide +kernel
theorem zye_X_over : zv_ek2 zy_X_over = true := by decide +kernel
def zf_X_over_l0_b (x1 : Int) (x2 : Int) (f0 : Int) (g0 : (Int → Int)) (g1 : (Int → Int)) (rec : Int → Int → Option (Int)) (x3 : Int) (x4 : Int) : Option (Int) := if x4 < 24 then ((zf_Sky_hasStar x4 f0).bind fun r4 => (if r4 = 0 then (rec x3 (zi_w (x4 + 1))) else (cond (zi_ix x4 24) (if (g0 x4) = x2 then ((zf_Math_floorMod (zi_w (x1 - (g1 x4))) 24).bind fun r8 => (rec (zi_or x3 (zi_shl 1 r8)) (zi_w (x4 + 1)))) else (rec x3 (zi_w (x4 + 1)))) none))) else (some x3)
def zf_X_over_l0 (x1 : Int) (x2 : Int) (f0 : Int) (g0 : (Int → Int)) (g1 : (Int → Int)) : Nat → Int → Int → Option (Int)
  | 0, _, _ => none
  | n + 1, x3, x4 => zf_X_over_l0_b x1 x2 f0 g0 g1 (zf_X_over_l0 x1 x2 f0 g0 g1 n) x3 x4
def zf_X_over (x1 : Int) (x2 : Int) (f0 : Int) (g0 : (Int → Int)) (g1 : (Int → Int)) : Option (Int) := (zf_X_isPlace x1 x2).bind fun r1 => (if r1 = 0 then (some (-1)) else ((zf_X_over_l0 x1 x2 f0 g0 g1 zi_fu 0 0).bind fun q9 => (some q9)))
theorem zd187_0 : decode zxm187.2.1 0 = .ok (.iload_n 1, 1) := by decide +kernel
theorem zd187_1 : decode zxm187.2.1 1 = .ok (.iload_n 2, 1) := by decide +kernel
theorem zd187_2 : decode zxm187.2.1 2 = .ok (.invokestatic 130, 3) := by decide +kernel
theorem zd187_5 : decode zxm187.2.1 5 = .ok (.ifCond .ne 5, 3) := by decide +kernel
theorem zd187_8 : decode zxm187.2.1 8 = .ok (.iconst (-1), 1) := by decide +kernel
theorem zd187_9 : decode zxm187.2.1 9 = .ok (.ireturn, 1) := by decide +kernel
theorem zd187_10 : decode zxm187.2.1 10 = .ok (.iconst 0, 1) := by decide +kernel
theorem zd187_11 : decode zxm187.2.1 11 = .ok (.istore_n 3, 1) := by decide +kernel
theorem zd187_12 : decode zxm187.2.1 12 = .ok (.iconst 0, 1) := by decide +kernel
theorem zd187_13 : decode zxm187.2.1 13 = .ok (.istore 4, 2) := by decide +kernel
theorem zd187_15 : decode zxm187.2.1 15 = .ok (.iload 4, 2) := by decide +kernel
theorem zd187_17 : decode zxm187.2.1 17 = .ok (.bipush 24, 2) := by decide +kernel
theorem zd187_19 : decode zxm187.2.1 19 = .ok (.if_icmp .ge 57, 3) := by decide +kernel
theorem zd187_22 : decode zxm187.2.1 22 = .ok (.aload_n 0, 1) := by decide +kernel
theorem zd187_23 : decode zxm187.2.1 23 = .ok (.getfield 10, 3) := by decide +kernel
theorem zd187_26 : decode zxm187.2.1 26 = .ok (.iload 4, 2) := by decide +kernel
theorem zd187_28 : decode zxm187.2.1 28 = .ok (.invokevirtual 153, 3) := by decide +kernel
theorem zd187_31 : decode zxm187.2.1 31 = .ok (.ifCond .eq 39, 3) := by decide +kernel
theorem zd187_34 : decode zxm187.2.1 34 = .ok (.aload_n 0, 1) := by decide +kernel
theorem zd187_35 : decode zxm187.2.1 35 = .ok (.getfield 10, 3) := by decide +kernel
theorem zd187_38 : decode zxm187.2.1 38 = .ok (.getfield 141, 3) := by decide +kernel
theorem zd187_41 : decode zxm187.2.1 41 = .ok (.iload 4, 2) := by decide +kernel
theorem zd187_43 : decode zxm187.2.1 43 = .ok (.iaload, 1) := by decide +kernel
theorem zd187_44 : decode zxm187.2.1 44 = .ok (.iload_n 2, 1) := by decide +kernel
theorem zd187_45 : decode zxm187.2.1 45 = .ok (.if_icmp .ne 25, 3) := by decide +kernel
theorem zd187_48 : decode zxm187.2.1 48 = .ok (.iload_n 3, 1) := by decide +kernel
theorem zd187_49 : decode zxm187.2.1 49 = .ok (.iconst 1, 1) := by decide +kernel
theorem zd187_50 : decode zxm187.2.1 50 = .ok (.iload_n 1, 1) := by decide +kernel
theorem zd187_51 : decode zxm187.2.1 51 = .ok (.aload_n 0, 1) := by decide +kernel
theorem zd187_52 : decode zxm187.2.1 52 = .ok (.getfield 10, 3) := by decide +kernel
theorem zd187_55 : decode zxm187.2.1 55 = .ok (.getfield 138, 3) := by decide +kernel
theorem zd187_58 : decode zxm187.2.1 58 = .ok (.iload 4, 2) := by decide +kernel
theorem zd187_60 : decode zxm187.2.1 60 = .ok (.iaload, 1) := by decide +kernel
theorem zd187_61 : decode zxm187.2.1 61 = .ok (.isub, 1) := by decide +kernel
theorem zd187_62 : decode zxm187.2.1 62 = .ok (.bipush 24, 2) := by decide +kernel
theorem zd187_64 : decode zxm187.2.1 64 = .ok (.invokestatic 395, 3) := by decide +kernel
theorem zd187_67 : decode zxm187.2.1 67 = .ok (.ishl, 1) := by decide +kernel
theorem zd187_68 : decode zxm187.2.1 68 = .ok (.ior, 1) := by decide +kernel
theorem zd187_69 : decode zxm187.2.1 69 = .ok (.istore_n 3, 1) := by decide +kernel
theorem zd187_70 : decode zxm187.2.1 70 = .ok (.iinc 4 1, 3) := by decide +kernel
theorem zd187_73 : decode zxm187.2.1 73 = .ok (.goto (-58), 3) := by decide +kernel
theorem zd187_76 : decode zxm187.2.1 76 = .ok (.iload_n 3, 1) := by decide +kernel
theorem zd187_77 : decode zxm187.2.1 77 = .ok (.ireturn, 1) := by decide +kernel
theorem zt_X_over {x1 : Int} {x2 : Int} {f0 : Int} {g0 : (Int → Int)} {g1 : (Int → Int)} {o : Int} (h : zf_X_over x1 x2 f0 g0 g1 = some o) : zv_Fn z_TB z_cl z_KX zy_X_over zxm187 (1, 60) [.inr 0, .inl x1, .inl x2] [.inl f0] [g0, g1] (some o) [.inl f0] [g0, g1] := zv_meth (K := (z_KF0, z_KC0, z_KL0, z_KT0, [], [], [], none)) (FT := z_FT) (MT := z_MT) (n := 3) zxp187 (z_ks0 _ (fun _ h => List.mem_cons_of_mem _ h) _ _ _ _ (fun j r h _ => by cases h)) (fun _ _ => zs_KX_p) zyw_X_over (fun va F G h => by obtain ⟨rfl, _⟩ := h; rfl) (fun va F G h => by obtain ⟨rfl, _⟩ := h; rfl) rfl fun good va F G hB hret hvret hP => by
  obtain ⟨rfl, rfl, rfl⟩ := hP
  have l0 : ∀ (n : Nat) (x1 : Int) (x2 : Int) (x3 : Int) (x4 : Int) (q : Int), zf_X_over_l0 x1 x2 f0 g0 g1 n x3 x4 = some q → (good 76 [.inr 1000, .inr 1000, .inr 1000, .inl q, .inr 1000] [] [.inl f0] [g0, g1]) → good 15 [.inr 0, .inl x1, .inl x2, .inl x3, .inl x4] [] [.inl f0] [g0, g1] := by
    intro n
    induction n with
    | zero => intro x1 x2 x3 x4 q h; exact absurd (show none = some q from h) (fun h => by cases h)
    | succ n ih =>
      intro x1 x2 x3 x4 q h hK
      replace h : zf_X_over_l0_b x1 x2 f0 g0 g1 (zf_X_over_l0 x1 x2 f0 g0 g1 n) x3 x4 = some q := h
      unfold zf_X_over_l0_b at h
      refine zv_ild hB zd187_15 rfl rfl ?_
      refine zv_con hB zd187_17 rfl ?_
      refine zv_cge hB zd187_19 rfl (fun hc3 => ?_) (fun hc3 => ?_)
      · rw [if_neg (Int.not_lt.mpr hc3)] at h
        have hq := Option.some.inj h
        subst hq
        refine zv_wk hB (L' := [.inr 1000, .inr 1000, .inr 1000, .inl x3, .inr 1000]) (F' := [.inl f0]) ⟨fun (h : zv_is (.inr 1000)) => (Nat.lt_irrefl 1000 h).elim, fun (h : zv_is (.inr 1000)) => (Nat.lt_irrefl 1000 h).elim, fun (h : zv_is (.inr 1000)) => (Nat.lt_irrefl 1000 h).elim, fun _ => rfl, fun (h : zv_is (.inr 1000)) => (Nat.lt_irrefl 1000 h).elim, trivial⟩ ⟨fun _ => rfl, trivial⟩ ?_
        exact hK
      · rw [if_pos hc3] at h
        refine zv_ald hB zd187_22 rfl rfl rfl ?_
        refine zv_getr hB zd187_23 rfl ?_
        refine zv_ild hB zd187_26 rfl rfl ?_
        obtain ⟨r4, hr4, h⟩ := zi_bind h
        refine zv_cv hB (zv_emq (va2 := [.inr 1, .inl x4]) (F := [.inl f0]) (F' := [.inl f0]) (G := [g0, g1]) (G' := [g0, g1]) (ρ := [1]) (φ := [0]) (ψ := []) [some 0] [none, none] zyw_Sky_hasStar zyw_X_over zye_X_over (by decide +kernel) (zt_Sky_hasStar hr4) ⟨⟨_, rfl, fun _ => rfl⟩, trivial⟩ trivial rfl rfl rfl rfl rfl rfl rfl) zd187_28 zxt18 rfl (by decide) (by decide) rfl ?_
        refine zv_zeq hB zd187_31 rfl (fun hc5 => ?_) (fun hc5 => ?_)
        · rw [if_pos hc5] at h
          refine zv_iincw hB zd187_70 rfl rfl ?_
          refine zv_goto hB zd187_73 rfl ?_
          exact ih _ _ _ _ q h hK
        · rw [if_neg hc5] at h
          refine zv_ald hB zd187_34 rfl rfl rfl ?_
          refine zv_getr hB zd187_35 rfl ?_
          refine zv_getr hB zd187_38 rfl ?_
          refine zv_ild hB zd187_41 rfl rfl ?_
          obtain ⟨c6, h⟩ := zi_if h
          refine zv_iald hB zd187_43 rfl rfl (zi_ix_ok c6).1 (zi_ix_ok c6).2 (fun _ _ => ?_)
          refine zv_ild hB zd187_44 rfl rfl ?_
          refine zv_cne hB zd187_45 rfl (fun hc7 => ?_) (fun hc7 => ?_)
          · rw [if_neg hc7] at h
            refine zv_iincw hB zd187_70 rfl rfl ?_
            refine zv_goto hB zd187_73 rfl ?_
            exact ih _ _ _ _ q h hK
          · rw [if_pos hc7] at h
            refine zv_ild hB zd187_48 rfl rfl ?_
            refine zv_con hB zd187_49 rfl ?_
            refine zv_ild hB zd187_50 rfl rfl ?_
            refine zv_ald hB zd187_51 rfl rfl rfl ?_
            refine zv_getr hB zd187_52 rfl ?_
            refine zv_getr hB zd187_55 rfl ?_
            refine zv_ild hB zd187_58 rfl rfl ?_
            refine zv_iald hB zd187_60 rfl rfl (zi_ix_ok c6).1 (zi_ix_ok c6).2 (fun _ _ => ?_)
            refine zv_subw hB zd187_61 ?_
            refine zv_con hB zd187_62 rfl ?_
            obtain ⟨r8, hr8, h⟩ := zi_bind h
            refine zv_cs hB (zv_emq (va2 := [.inl (zi_w (x1 - (g1 x4))), .inl 24]) (F := [.inl f0]) (F' := [.inl f0]) (G := [g0, g1]) (G' := [g0, g1]) (ρ := []) (φ := []) (ψ := []) [none] [none, none] zyw_Math_floorMod zyw_X_over zye_X_over (by decide +kernel) (zt_Math_floorMod hr8) trivial trivial rfl rfl rfl rfl rfl rfl rfl) zd187_64 zxt129 rfl (by decide) (by decide) rfl ?_
            refine zv_shlw hB zd187_67 ?_
            refine zv_orw hB zd187_68 ?_
            refine zv_ist hB zd187_69 rfl rfl rfl ?_
            refine zv_iincw hB zd187_70 rfl rfl ?_
            refine zv_goto hB zd187_73 rfl ?_
            exact ih _ _ _ _ q h hK
  unfold zf_X_over at h
  refine zv_ild hB zd187_0 rfl rfl ?_
  refine zv_ild hB zd187_1 rfl rfl ?_
  obtain ⟨r1, hr1, h⟩ := zi_bind h
  refine zv_cs hB (zv_emq (va2 := [.inl x1, .inl x2]) (F := [.inl f0]) (F' := [.inl f0]) (G := [g0, g1]) (G' := [g0, g1]) (ρ := []) (φ := []) (ψ := []) [none] [none, none] zyw_X_isPlace zyw_X_over zye_X_over (by decide +kernel) (zt_X_isPlace hr1) trivial trivial rfl rfl rfl rfl rfl rfl rfl) zd187_2 zxt16 rfl (by decide) (by decide) rfl ?_
  refine zv_zne hB zd187_5 rfl (fun hc2 => ?_) (fun hc2 => ?_)
  · rw [if_neg hc2] at h
    refine zv_con hB zd187_10 rfl ?_
    refine zv_ist hB zd187_11 rfl rfl rfl ?_
    refine zv_con hB zd187_12 rfl ?_
    refine zv_ist hB zd187_13 rfl rfl rfl ?_
    obtain ⟨q9, hq9, h⟩ := zi_bind h
    refine l0 _ _ _ _ _ q9 hq9 ?_
    show good 76 [.inr 1000, .inr 1000, .inr 1000, .inl q9, .inr 1000] [] [.inl f0] [g0, g1]
    refine zv_ild hB zd187_76 rfl rfl ?_
    have hw := Option.some.inj h
    subst hw
    exact hret _ _ _ _ _ zd187_77 (by trivial) ⟨rfl, rfl, rfl⟩
  · rw [if_pos hc2] at h
    refine zv_con hB zd187_8 rfl ?_
    have hw := Option.some.inj h
    subst hw
    exact hret _ _ _ _ _ zd187_9 (by trivial) ⟨rfl, rfl, rfl⟩
/-! View_hasLinesOf (LStarTales$View;)Z -/
-- names: 0 View('arg', 0), 1 View('arg', 1), 2 (0, 24)(0, 7, 5), 3 (0, 24)(1, 7, 5)
-- fields: ; arrays: g0 = 2, g1 = 3; out: [('ret', None)]
abbrev zy_View_hasLinesOf : zNL := (4, [(0, 7), (1, 7)], [], [(0, 7, 5, 2), (1, 7, 5, 3)], [(2, 0, 24, 0), (3, 0, 24, 1)])
theorem zyw_View_hasLinesOf : zv_wf zy_View_hasLinesOf = true := by decide +kernel
theorem zye_View_hasLinesOf : zv_ek2 zy_View_hasLinesOf = true := by decide +kernel
def zf_View_hasLinesOf_l0_b (g0 : (Int → Int)) (g1 : (Int → Int)) (rec : Int → Option (((Unit) ⊕ (Int)))) (x2 : Int) : Option (((Unit) ⊕ (Int))) := if x2 < 24 then (cond (zi_ix x2 24) (if (g0 x2) = (g1 x2) then (rec (zi_w (x2 + 1))) else (some (.inr 0))) none) else (some (.inl ()))
def zf_View_hasLinesOf_l0 (g0 : (Int → Int)) (g1 : (Int → Int)) : Nat → Int → Option (((Unit) ⊕ (Int)))
  | 0, _ => none
  | n + 1, x2 => zf_View_hasLinesOf_l0_b g0 g1 (zf_View_hasLinesOf_l0 g0 g1 n) x2
def zf_View_hasLinesOf (g0 : (Int → Int)) (g1 : (Int → Int)) : Option (Int) := (zf_View_hasLinesOf_l0 g0 g1 zi_fu 0).bind fun q4 => Sum.elim (fun e5 => (some 1)) (fun w6 => some w6) q4
theorem zd189_0 : decode zxm189.2.1 0 = .ok (.iconst 0, 1) := by decide +kernel
theorem zd189_1 : decode zxm189.2.1 1 = .ok (.istore_n 2, 1) := by decide +kernel
theorem zd189_2 : decode zxm189.2.1 2 = .ok (.iload_n 2, 1) := by decide +kernel
theorem zd189_3 : decode zxm189.2.1 3 = .ok (.bipush 24, 2) := by decide +kernel
theorem zd189_5 : decode zxm189.2.1 5 = .ok (.if_icmp .ge 26, 3) := by decide +kernel
theorem zd189_8 : decode zxm189.2.1 8 = .ok (.aload_n 0, 1) := by decide +kernel
theorem zd189_9 : decode zxm189.2.1 9 = .ok (.getfield 21, 3) := by decide +kernel
theorem zd189_12 : decode zxm189.2.1 12 = .ok (.iload_n 2, 1) := by decide +kernel
theorem zd189_13 : decode zxm189.2.1 13 = .ok (.iaload, 1) := by decide +kernel
theorem zd189_14 : decode zxm189.2.1 14 = .ok (.aload_n 1, 1) := by decide +kernel
theorem zd189_15 : decode zxm189.2.1 15 = .ok (.getfield 21, 3) := by decide +kernel
theorem zd189_18 : decode zxm189.2.1 18 = .ok (.iload_n 2, 1) := by decide +kernel
theorem zd189_19 : decode zxm189.2.1 19 = .ok (.iaload, 1) := by decide +kernel
theorem zd189_20 : decode zxm189.2.1 20 = .ok (.if_icmp .eq 5, 3) := by decide +kernel
theorem zd189_23 : decode zxm189.2.1 23 = .ok (.iconst 0, 1) := by decide +kernel
theorem zd189_24 : decode zxm189.2.1 24 = .ok (.ireturn, 1) := by decide +kernel
theorem zd189_25 : decode zxm189.2.1 25 = .ok (.iinc 2 1, 3) := by decide +kernel
theorem zd189_28 : decode zxm189.2.1 28 = .ok (.goto (-26), 3) := by decide +kernel
theorem zd189_31 : decode zxm189.2.1 31 = .ok (.iconst 1, 1) := by decide +kernel
theorem zd189_32 : decode zxm189.2.1 32 = .ok (.ireturn, 1) := by decide +kernel
theorem zt_View_hasLinesOf {g0 : (Int → Int)} {g1 : (Int → Int)} {o : Int} (h : zf_View_hasLinesOf g0 g1 = some o) : zv_Fn z_TB z_cl z_KX zy_View_hasLinesOf zxm189 (0, 0) [.inr 0, .inr 1] [] [g0, g1] (some o) [] [g0, g1] := zv_meth (K := (z_KF11, z_KC11, z_KL11, z_KT11, [], [], [], none)) (FT := z_FT) (MT := z_MT) (n := 2) zxp189 (z_ks11 _ (fun _ h => List.mem_cons_of_mem _ h) _ _ _ _ (fun j r h _ => by cases h)) (fun _ _ => zs_KX_p) zyw_View_hasLinesOf (fun va F G h => by obtain ⟨rfl, _⟩ := h; rfl) (fun va F G h => by obtain ⟨rfl, _⟩ := h; rfl) rfl fun good va F G hB hret hvret hP => by
  obtain ⟨rfl, rfl, rfl⟩ := hP
  have l0 : ∀ (n : Nat) (x2 : Int) (q : ((Unit) ⊕ (Int))), zf_View_hasLinesOf_l0 g0 g1 n x2 = some q → (Sum.elim (fun e : Unit => good 31 [.inr 1000, .inr 1000, .inr 1000] [] [] [g0, g1]) (fun w : Int => w = o) q) → good 2 [.inr 0, .inr 1, .inl x2] [] [] [g0, g1] := by
    intro n
    induction n with
    | zero => intro x2 q h; exact absurd (show none = some q from h) (fun h => by cases h)
    | succ n ih =>
      intro x2 q h hK
      replace h : zf_View_hasLinesOf_l0_b g0 g1 (zf_View_hasLinesOf_l0 g0 g1 n) x2 = some q := h
      unfold zf_View_hasLinesOf_l0_b at h
      refine zv_ild hB zd189_2 rfl rfl ?_
      refine zv_con hB zd189_3 rfl ?_
      refine zv_cge hB zd189_5 rfl (fun hc1 => ?_) (fun hc1 => ?_)
      · rw [if_neg (Int.not_lt.mpr hc1)] at h
        have hq := Option.some.inj h
        subst hq
        refine zv_wk hB (L' := [.inr 1000, .inr 1000, .inr 1000]) (F' := []) ⟨fun (h : zv_is (.inr 1000)) => (Nat.lt_irrefl 1000 h).elim, fun (h : zv_is (.inr 1000)) => (Nat.lt_irrefl 1000 h).elim, fun (h : zv_is (.inr 1000)) => (Nat.lt_irrefl 1000 h).elim, trivial⟩ trivial ?_
        exact hK
      · rw [if_pos hc1] at h
        refine zv_ald hB zd189_8 rfl rfl rfl ?_
        refine zv_getr hB zd189_9 rfl ?_
        refine zv_ild hB zd189_12 rfl rfl ?_
        obtain ⟨c2, h⟩ := zi_if h
        refine zv_iald hB zd189_13 rfl rfl (zi_ix_ok c2).1 (zi_ix_ok c2).2 (fun _ _ => ?_)
        refine zv_ald hB zd189_14 rfl rfl rfl ?_
        refine zv_getr hB zd189_15 rfl ?_
        refine zv_ild hB zd189_18 rfl rfl ?_
        refine zv_iald hB zd189_19 rfl rfl (zi_ix_ok c2).1 (zi_ix_ok c2).2 (fun _ _ => ?_)
        refine zv_ceq hB zd189_20 rfl (fun hc3 => ?_) (fun hc3 => ?_)
        · rw [if_pos hc3] at h
          refine zv_iincw hB zd189_25 rfl rfl ?_
          refine zv_goto hB zd189_28 rfl ?_
          exact ih _ q h hK
        · rw [if_neg hc3] at h
          refine zv_con hB zd189_23 rfl ?_
          have hw : 0 = o := zi_rk (Option.some.inj h) hK
          subst hw
          exact hret _ _ _ _ _ zd189_24 (by constructor <;> decide) ⟨rfl, rfl, rfl⟩
  unfold zf_View_hasLinesOf at h
  refine zv_con hB zd189_0 rfl ?_
  refine zv_ist hB zd189_1 rfl rfl rfl ?_
  obtain ⟨q4, hq4, h⟩ := zi_bind h
  refine l0 _ _ q4 hq4 ?_
  rcases q4 with e5 | w6
  · replace h := zi_sl h
    show good 31 [.inr 1000, .inr 1000, .inr 1000] [] [] [g0, g1]
    refine zv_con hB zd189_31 rfl ?_
    have hw := Option.some.inj h
    subst hw
    exact hret _ _ _ _ _ zd189_32 (by constructor <;> decide) ⟨rfl, rfl, rfl⟩
  · exact Option.some.inj h
/-! X_home (II)I -/
-- names: 0 StarTales('arg', 0), 1 View(0, 0, 12), 2 Sky(0, 0, 0), 3 Law(0, 0, 7), 4 (0, 24)(1, 7, 8), 5 (0, 13)(3, 4, 12), 6 (0, 24)(2, 1, 1), 7 (0, 24)(2, 1, 2), 8 (0, 24)(2, 1, 3), 9 (0, 14)(3, 4, 3), 10 (0, 14)(3, 4, 5), 11 (0, 14)(3, 4, 6), 12 (0, 200)(3, 4, 0), 13 (0, 40)(3, 4, 13), 14 (0, 200)(3, 4, 1), 15 (0, 24)(1, 7, 5), 16 (0, 24)(1, 7, 9), 17 Sky(0, 0, 2), 18 (0, 24)(17, 1, 1), 19 (0, 24)(17, 1, 2), 20 (0, 24)(17, 1, 3), 21 (0, 24)(2, 1, 4), 22 (0, 24)(17, 1, 4), 23 (0, 24)(2, 1, 5), 24 (0, 24)(17, 1, 5), 25 View(0, 0, 13), 26 (0, 24)(25, 7, 8), 27 (0, 24)(25, 7, 5), 28 (0, 24)(25, 7, 9)
-- fields: f0 = 0.ruling_, f1 = 1.sky_, f2 = 1.law_, f3 = 1.starsAsked_, f4 = 1.x_, f5 = 1.y_, f6 = 2.hour_, f7 = 2.night_, f8 = 1.shown_, f9 = 2.told_, f10 = 2.sightColumns_, f11 = 2.sightRows_, f12 = 2.clouds_, f13 = 3.tellsSeen_, f14 = 1.starsHold_, f15 = 3.clauses_, f16 = 3.answer_, f17 = 3.seenByPlace_, f18 = 3.tellsLines_, f19 = 3.linesByPlace_, f20 = 17.told_, f21 = 17.hour_, f22 = 17.night_, f23 = 17.clouds_, f24 = 17.sightColumns_, f25 = 17.sightRows_, f26 = 2.chance_, f27 = 17.chance_, f28 = 25.sky_, f29 = 25.law_, f30 = 25.starsAsked_, f31 = 25.x_, f32 = 25.y_, f33 = 25.shown_, f34 = 25.starsHold_; arrays: g0 = 4, g1 = 5, g2 = 6, g3 = 7, g4 = 8, g5 = 9, g6 = 10, g7 = 11, g8 = 12, g9 = 13, g10 = 14, g11 = 15, g12 = 16, g13 = 18, g14 = 19, g15 = 20, g16 = 21, g17 = 22, g18 = 23, g19 = 24, g20 = 26, g21 = 27, g22 = 28; out: [('ret', None), ('f', 3), ('f', 4), ('f', 5), ('f', 8), ('f', 14), ('f', 16), ('f', 20), ('f', 21), ('f', 22), ('f', 23), ('f', 24), ('f', 25), ('f', 27), ('f', 30), ('f', 31), ('f', 32), ('f', 33), ('f', 34), ('g', 0), ('g', 1), ('g', 9), ('g', 11), ('g', 12), ('g', 13), ('g', 14), ('g', 15), ('g', 17), ('g', 19), ('g', 20), ('g', 21), ('g', 22)]
abbrev zy_X_home : zNL := (29, [(0, 0), (1, 7), (2, 1), (3, 4), (17, 1), (25, 7)], [(0, 0, 7, 0), (1, 7, 0, 1), (1, 7, 1, 2), (1, 7, 6, 3), (1, 7, 2, 4), (1, 7, 3, 5), (2, 1, 6, 6), (2, 1, 7, 7), (1, 7, 4, 8), (2, 1, 0, 9), (2, 1, 9, 10), (2, 1, 10, 11), (2, 1, 8, 12), (3, 4, 8, 13), (1, 7, 7, 14), (3, 4, 7, 15), (3, 4, 14, 16), (3, 4, 10, 17), (3, 4, 9, 18), (3, 4, 11, 19), (17, 1, 0, 20), (17, 1, 6, 21), (17, 1, 7, 22), (17, 1, 8, 23), (17, 1, 9, 24), (17, 1, 10, 25), (2, 1, 11, 26), (17, 1, 11, 27), (25, 7, 0, 28), (25, 7, 1, 29), (25, 7, 6, 30), (25, 7, 2, 31), (25, 7, 3, 32), (25, 7, 4, 33), (25, 7, 7, 34)], [(0, 0, 12, 1), (0, 0, 0, 2), (1, 7, 8, 4), (3, 4, 12, 5), (2, 1, 1, 6), (2, 1, 2, 7), (2, 1, 3, 8), (3, 4, 3, 9), (3, 4, 5, 10), (3, 4, 6, 11), (3, 4, 0, 12), (3, 4, 13, 13), (3, 4, 1, 14), (1, 7, 5, 15), (1, 7, 9, 16), (0, 0, 2, 17), (17, 1, 1, 18), (17, 1, 2, 19), (17, 1, 3, 20), (2, 1, 4, 21), (17, 1, 4, 22), (2, 1, 5, 23), (17, 1, 5, 24), (0, 0, 13, 25), (25, 7, 8, 26), (25, 7, 5, 27), (25, 7, 9, 28)], [(4, 0, 24, 0), (5, 0, 13, 1), (6, 0, 24, 2), (7, 0, 24, 3), (8, 0, 24, 4), (9, 0, 14, 5), (10, 0, 14, 6), (11, 0, 14, 7), (12, 0, 200, 8), (13, 0, 40, 9), (14, 0, 200, 10), (15, 0, 24, 11), (16, 0, 24, 12), (18, 0, 24, 13), (19, 0, 24, 14), (20, 0, 24, 15), (21, 0, 24, 16), (22, 0, 24, 17), (23, 0, 24, 18), (24, 0, 24, 19), (26, 0, 24, 20), (27, 0, 24, 21), (28, 0, 24, 22)])
theorem zyw_X_home : zv_wf zy_X_home = true := by decide +kernel
theorem zye_X_home : zv_ek2 zy_X_home = true := by decide +kernel
def zf_X_home_l0_b (x1 : Int) (x2 : Int) (f3 : Int) (f4 : Int) (f5 : Int) (f8 : Int) (f13 : Int) (f14 : Int) (f15 : Int) (f17 : Int) (f18 : Int) (f19 : Int) (f20 : Int) (f21 : Int) (f23 : Int) (f24 : Int) (f25 : Int) (f27 : Int) (g0 : (Int → Int)) (g5 : (Int → Int)) (g6 : (Int → Int)) (g7 : (Int → Int)) (g8 : (Int → Int)) (g10 : (Int → Int)) (g11 : (Int → Int)) (g12 : (Int → Int)) (g15 : (Int → Int)) (g17 : (Int → Int)) (g19 : (Int → Int)) (rec : Int → Int → Int → Int → Int → Int → Int → Int → (Int → Int) → (Int → Int) → (Int → Int) → (Int → Int) → (Int → Int) → (Int → Int) → (Int → Int) → Option (((Int × Int × Int × Int × Int × Int × Int × (Int → Int) × (Int → Int) × (Int → Int) × (Int → Int) × (Int → Int) × (Int → Int) × (Int → Int)) ⊕ (Int × Int × Int × Int × Int × Int × Int × Int × Int × Int × Int × Int × Int × Int × Int × Int × Int × Int × Int × (Int → Int) × (Int → Int) × (Int → Int) × (Int → Int) × (Int → Int) × (Int → Int) × (Int → Int) × (Int → Int) × (Int → Int) × (Int → Int) × (Int → Int) × (Int → Int) × (Int → Int))))) (x3 : Int) (f16 : Int) (f22 : Int) (f30 : Int) (f31 : Int) (f32 : Int) (f33 : Int) (f34 : Int) (g1 : (Int → Int)) (g9 : (Int → Int)) (g13 : (Int → Int)) (g14 : (Int → Int)) (g20 : (Int → Int)) (g21 : (Int → Int)) (g22 : (Int → Int)) : Option (((Int × Int × Int × Int × Int × Int × Int × (Int → Int) × (Int → Int) × (Int → Int) × (Int → Int) × (Int → Int) × (Int → Int) × (Int → Int)) ⊕ (Int × Int × Int × Int × Int × Int × Int × Int × Int × Int × Int × Int × Int × Int × Int × Int × Int × Int × Int × (Int → Int) × (Int → Int) × (Int → Int) × (Int → Int) × (Int → Int) × (Int → Int) × (Int → Int) × (Int → Int) × (Int → Int) × (Int → Int) × (Int → Int) × (Int → Int) × (Int → Int)))) := if 60 < x3 then (some (.inl (f16, f22, f30, f31, f32, f33, f34, g1, g9, g13, g14, g20, g21, g22))) else ((zf_Sky_beginNight f22 g13 g17 g14 g19).bind fun r6 => ((zf_View_open f30 g20).bind fun r7 => ((zf_View_look x1 x2 f31 f32 f21 r6.1 f33 f20 f24 f25 f23 f13 r7.1 f34 f15 f16 f17 g1 r6.2.1 r6.2.2 g15 g5 g6 g7 g8 g9 g10).bind fun r8 => (if r8.2.2.1 = f8 then ((zf_View_draw f18 r8.1 r8.2.1 f21 r6.1 r8.2.2.1 f15 r8.2.2.2.2.2.1 f19 g21 r8.2.2.2.2.2.2.1 r7.2 g22 g15 r6.2.2 r6.2.1 g5 g6 g7 g8 r8.2.2.2.2.2.2.2 g10).bind fun r10 => ((zf_View_hasLinesOf r10.2.2.2.1 g11).bind fun r11 => (if r11 = 0 then (rec (zi_w (x3 + 1)) r10.2.2.1 r6.1 r8.2.2.2.1 r10.1 r10.2.1 r8.2.2.1 r8.2.2.2.2.1 r10.2.2.2.2.1 r10.2.2.2.2.2.2.2 r6.2.1 r6.2.2 r10.2.2.2.2.2.1 r10.2.2.2.1 r10.2.2.2.2.2.2.1) else (some (.inr (x3, f3, f4, f5, f8, f14, r10.2.2.1, f20, f21, r6.1, f23, f24, f25, f27, r8.2.2.2.1, r10.1, r10.2.1, r8.2.2.1, r8.2.2.2.2.1, g0, r10.2.2.2.2.1, r10.2.2.2.2.2.2.2, g11, g12, r6.2.1, r6.2.2, g15, g17, g19, r10.2.2.2.2.2.1, r10.2.2.2.1, r10.2.2.2.2.2.2.1)))))) else (rec (zi_w (x3 + 1)) r8.2.2.2.2.2.1 r6.1 r8.2.2.2.1 r8.1 r8.2.1 r8.2.2.1 r8.2.2.2.2.1 r8.2.2.2.2.2.2.1 r8.2.2.2.2.2.2.2 r6.2.1 r6.2.2 r7.2 g21 g22)))))
def zf_X_home_l0 (x1 : Int) (x2 : Int) (f3 : Int) (f4 : Int) (f5 : Int) (f8 : Int) (f13 : Int) (f14 : Int) (f15 : Int) (f17 : Int) (f18 : Int) (f19 : Int) (f20 : Int) (f21 : Int) (f23 : Int) (f24 : Int) (f25 : Int) (f27 : Int) (g0 : (Int → Int)) (g5 : (Int → Int)) (g6 : (Int → Int)) (g7 : (Int → Int)) (g8 : (Int → Int)) (g10 : (Int → Int)) (g11 : (Int → Int)) (g12 : (Int → Int)) (g15 : (Int → Int)) (g17 : (Int → Int)) (g19 : (Int → Int)) : Nat → Int → Int → Int → Int → Int → Int → Int → Int → (Int → Int) → (Int → Int) → (Int → Int) → (Int → Int) → (Int → Int) → (Int → Int) → (Int → Int) → Option (((Int × Int × Int × Int × Int × Int × Int × (Int → Int) × (Int → Int) × (Int → Int) × (Int → Int) × (Int → Int) × (Int → Int) × (Int → Int)) ⊕ (Int × Int × Int × Int × Int × Int × Int × Int × Int × Int × Int × Int × Int × Int × Int × Int × Int × Int × Int × (Int → Int) × (Int → Int) × (Int → Int) × (Int → Int) × (Int → Int) × (Int → Int) × (Int → Int) × (Int → Int) × (Int → Int) × (Int → Int) × (Int → Int) × (Int → Int) × (Int → Int))))
  | 0, _, _, _, _, _, _, _, _, _, _, _, _, _, _, _ => none
  | n + 1, x3, f16, f22, f30, f31, f32, f33, f34, g1, g9, g13, g14, g20, g21, g22 => zf_X_home_l0_b x1 x2 f3 f4 f5 f8 f13 f14 f15 f17 f18 f19 f20 f21 f23 f24 f25 f27 g0 g5 g6 g7 g8 g10 g11 g12 g15 g17 g19 (zf_X_home_l0 x1 x2 f3 f4 f5 f8 f13 f14 f15 f17 f18 f19 f20 f21 f23 f24 f25 f27 g0 g5 g6 g7 g8 g10 g11 g12 g15 g17 g19 n) x3 f16 f22 f30 f31 f32 f33 f34 g1 g9 g13 g14 g20 g21 g22
def zf_X_home (x1 : Int) (x2 : Int) (f3 : Int) (f4 : Int) (f5 : Int) (f6 : Int) (f7 : Int) (f8 : Int) (f9 : Int) (f10 : Int) (f11 : Int) (f12 : Int) (f13 : Int) (f14 : Int) (f15 : Int) (f16 : Int) (f17 : Int) (f18 : Int) (f19 : Int) (f20 : Int) (f21 : Int) (f22 : Int) (f23 : Int) (f24 : Int) (f25 : Int) (f26 : Int) (f27 : Int) (f30 : Int) (f31 : Int) (f32 : Int) (f33 : Int) (f34 : Int) (g0 : (Int → Int)) (g1 : (Int → Int)) (g2 : (Int → Int)) (g3 : (Int → Int)) (g4 : (Int → Int)) (g5 : (Int → Int)) (g6 : (Int → Int)) (g7 : (Int → Int)) (g8 : (Int → Int)) (g9 : (Int → Int)) (g10 : (Int → Int)) (g11 : (Int → Int)) (g12 : (Int → Int)) (g13 : (Int → Int)) (g14 : (Int → Int)) (g15 : (Int → Int)) (g16 : (Int → Int)) (g17 : (Int → Int)) (g18 : (Int → Int)) (g19 : (Int → Int)) (g20 : (Int → Int)) (g21 : (Int → Int)) (g22 : (Int → Int)) : Option (Int × Int × Int × Int × Int × Int × Int × Int × Int × Int × Int × Int × Int × Int × Int × Int × Int × Int × Int × (Int → Int) × (Int → Int) × (Int → Int) × (Int → Int) × (Int → Int) × (Int → Int) × (Int → Int) × (Int → Int) × (Int → Int) × (Int → Int) × (Int → Int) × (Int → Int) × (Int → Int)) := (zf_X_isPlace x1 x2).bind fun r1 => (if r1 = 0 then (some ((-1), f3, f4, f5, f8, f14, f16, f20, f21, f22, f23, f24, f25, f27, f30, f31, f32, f33, f34, g0, g1, g9, g11, g12, g13, g14, g15, g17, g19, g20, g21, g22)) else ((zf_X_lookAndDraw x1 x2 f3 f4 f5 f6 f7 f8 f9 f10 f11 f12 f13 f14 f15 f16 f17 f18 f19 g0 g1 g2 g3 g4 g5 g6 g7 g8 g9 g10 g11 g12).bind fun r3 => ((zf_Sky_copyFrom f9 f20 f6 f21 f7 f22 f12 f23 f10 f24 f11 f25 f26 f27 g2 g13 g3 g14 g4 g15 g16 g17 g18 g19).bind fun r4 => ((zf_X_home_l0 x1 x2 r3.1 r3.2.1 r3.2.2.1 r3.2.2.2.1 f13 r3.2.2.2.2.1 f15 f17 f18 f19 r4.1 r4.2.1 r4.2.2.2.1 r4.2.2.2.2.1 r4.2.2.2.2.2.1 r4.2.2.2.2.2.2.1 r3.2.2.2.2.2.2.1 g5 g6 g7 g8 g10 r3.2.2.2.2.2.2.2.2.2.1 r3.2.2.2.2.2.2.2.2.2.2 r4.2.2.2.2.2.2.2.2.2.1 r4.2.2.2.2.2.2.2.2.2.2.1 r4.2.2.2.2.2.2.2.2.2.2.2 zi_fu 1 r3.2.2.2.2.2.1 r4.2.2.1 f30 f31 f32 f33 f34 r3.2.2.2.2.2.2.2.1 r3.2.2.2.2.2.2.2.2.1 r4.2.2.2.2.2.2.2.1 r4.2.2.2.2.2.2.2.2.1 g20 g21 g22).bind fun q13 => Sum.elim (fun e14 => (some ((-2), r3.1, r3.2.1, r3.2.2.1, r3.2.2.2.1, r3.2.2.2.2.1, e14.1, r4.1, r4.2.1, e14.2.1, r4.2.2.2.1, r4.2.2.2.2.1, r4.2.2.2.2.2.1, r4.2.2.2.2.2.2.1, e14.2.2.1, e14.2.2.2.1, e14.2.2.2.2.1, e14.2.2.2.2.2.1, e14.2.2.2.2.2.2.1, r3.2.2.2.2.2.2.1, e14.2.2.2.2.2.2.2.1, e14.2.2.2.2.2.2.2.2.1, r3.2.2.2.2.2.2.2.2.2.1, r3.2.2.2.2.2.2.2.2.2.2, e14.2.2.2.2.2.2.2.2.2.1, e14.2.2.2.2.2.2.2.2.2.2.1, r4.2.2.2.2.2.2.2.2.2.1, r4.2.2.2.2.2.2.2.2.2.2.1, r4.2.2.2.2.2.2.2.2.2.2.2, e14.2.2.2.2.2.2.2.2.2.2.2.1, e14.2.2.2.2.2.2.2.2.2.2.2.2.1, e14.2.2.2.2.2.2.2.2.2.2.2.2.2))) (fun w15 => some w15) q13))))
theorem zd188_0 : decode zxm188.2.1 0 = .ok (.iload_n 1, 1) := by decide +kernel
theorem zd188_1 : decode zxm188.2.1 1 = .ok (.iload_n 2, 1) := by decide +kernel
theorem zd188_2 : decode zxm188.2.1 2 = .ok (.invokestatic 130, 3) := by decide +kernel
theorem zd188_5 : decode zxm188.2.1 5 = .ok (.ifCond .ne 5, 3) := by decide +kernel
theorem zd188_8 : decode zxm188.2.1 8 = .ok (.iconst (-1), 1) := by decide +kernel
theorem zd188_9 : decode zxm188.2.1 9 = .ok (.ireturn, 1) := by decide +kernel
theorem zd188_10 : decode zxm188.2.1 10 = .ok (.aload_n 0, 1) := by decide +kernel
theorem zd188_11 : decode zxm188.2.1 11 = .ok (.aload_n 0, 1) := by decide +kernel
theorem zd188_12 : decode zxm188.2.1 12 = .ok (.getfield 81, 3) := by decide +kernel
theorem zd188_15 : decode zxm188.2.1 15 = .ok (.iload_n 1, 1) := by decide +kernel
theorem zd188_16 : decode zxm188.2.1 16 = .ok (.iload_n 2, 1) := by decide +kernel
theorem zd188_17 : decode zxm188.2.1 17 = .ok (.invokevirtual 221, 3) := by decide +kernel
theorem zd188_20 : decode zxm188.2.1 20 = .ok (.aload_n 0, 1) := by decide +kernel
theorem zd188_21 : decode zxm188.2.1 21 = .ok (.getfield 19, 3) := by decide +kernel
theorem zd188_24 : decode zxm188.2.1 24 = .ok (.aload_n 0, 1) := by decide +kernel
theorem zd188_25 : decode zxm188.2.1 25 = .ok (.getfield 10, 3) := by decide +kernel
theorem zd188_28 : decode zxm188.2.1 28 = .ok (.invokevirtual 273, 3) := by decide +kernel
theorem zd188_31 : decode zxm188.2.1 31 = .ok (.iconst 1, 1) := by decide +kernel
theorem zd188_32 : decode zxm188.2.1 32 = .ok (.istore_n 3, 1) := by decide +kernel
theorem zd188_33 : decode zxm188.2.1 33 = .ok (.iload_n 3, 1) := by decide +kernel
theorem zd188_34 : decode zxm188.2.1 34 = .ok (.bipush 60, 2) := by decide +kernel
theorem zd188_36 : decode zxm188.2.1 36 = .ok (.if_icmp .gt 80, 3) := by decide +kernel
theorem zd188_39 : decode zxm188.2.1 39 = .ok (.aload_n 0, 1) := by decide +kernel
theorem zd188_40 : decode zxm188.2.1 40 = .ok (.getfield 19, 3) := by decide +kernel
theorem zd188_43 : decode zxm188.2.1 43 = .ok (.invokevirtual 400, 3) := by decide +kernel
theorem zd188_46 : decode zxm188.2.1 46 = .ok (.aload_n 0, 1) := by decide +kernel
theorem zd188_47 : decode zxm188.2.1 47 = .ok (.getfield 85, 3) := by decide +kernel
theorem zd188_50 : decode zxm188.2.1 50 = .ok (.aload_n 0, 1) := by decide +kernel
theorem zd188_51 : decode zxm188.2.1 51 = .ok (.getfield 19, 3) := by decide +kernel
theorem zd188_54 : decode zxm188.2.1 54 = .ok (.aload_n 0, 1) := by decide +kernel
theorem zd188_55 : decode zxm188.2.1 55 = .ok (.getfield 46, 3) := by decide +kernel
theorem zd188_58 : decode zxm188.2.1 58 = .ok (.invokevirtual 211, 3) := by decide +kernel
theorem zd188_61 : decode zxm188.2.1 61 = .ok (.aload_n 0, 1) := by decide +kernel
theorem zd188_62 : decode zxm188.2.1 62 = .ok (.getfield 85, 3) := by decide +kernel
theorem zd188_65 : decode zxm188.2.1 65 = .ok (.iload_n 1, 1) := by decide +kernel
theorem zd188_66 : decode zxm188.2.1 66 = .ok (.iload_n 2, 1) := by decide +kernel
theorem zd188_67 : decode zxm188.2.1 67 = .ok (.invokevirtual 214, 3) := by decide +kernel
theorem zd188_70 : decode zxm188.2.1 70 = .ok (.aload_n 0, 1) := by decide +kernel
theorem zd188_71 : decode zxm188.2.1 71 = .ok (.getfield 85, 3) := by decide +kernel
theorem zd188_74 : decode zxm188.2.1 74 = .ok (.getfield 218, 3) := by decide +kernel
theorem zd188_77 : decode zxm188.2.1 77 = .ok (.aload_n 0, 1) := by decide +kernel
theorem zd188_78 : decode zxm188.2.1 78 = .ok (.getfield 81, 3) := by decide +kernel
theorem zd188_81 : decode zxm188.2.1 81 = .ok (.getfield 218, 3) := by decide +kernel
theorem zd188_84 : decode zxm188.2.1 84 = .ok (.if_icmp .ne 26, 3) := by decide +kernel
theorem zd188_87 : decode zxm188.2.1 87 = .ok (.aload_n 0, 1) := by decide +kernel
theorem zd188_88 : decode zxm188.2.1 88 = .ok (.getfield 85, 3) := by decide +kernel
theorem zd188_91 : decode zxm188.2.1 91 = .ok (.invokevirtual 403, 3) := by decide +kernel
theorem zd188_94 : decode zxm188.2.1 94 = .ok (.aload_n 0, 1) := by decide +kernel
theorem zd188_95 : decode zxm188.2.1 95 = .ok (.getfield 85, 3) := by decide +kernel
theorem zd188_98 : decode zxm188.2.1 98 = .ok (.aload_n 0, 1) := by decide +kernel
theorem zd188_99 : decode zxm188.2.1 99 = .ok (.getfield 81, 3) := by decide +kernel
theorem zd188_102 : decode zxm188.2.1 102 = .ok (.invokevirtual 406, 3) := by decide +kernel
theorem zd188_105 : decode zxm188.2.1 105 = .ok (.ifCond .eq 5, 3) := by decide +kernel
theorem zd188_108 : decode zxm188.2.1 108 = .ok (.iload_n 3, 1) := by decide +kernel
theorem zd188_109 : decode zxm188.2.1 109 = .ok (.ireturn, 1) := by decide +kernel
theorem zd188_110 : decode zxm188.2.1 110 = .ok (.iinc 3 1, 3) := by decide +kernel
theorem zd188_113 : decode zxm188.2.1 113 = .ok (.goto (-80), 3) := by decide +kernel
theorem zd188_116 : decode zxm188.2.1 116 = .ok (.bipush (-2), 2) := by decide +kernel
theorem zd188_118 : decode zxm188.2.1 118 = .ok (.ireturn, 1) := by decide +kernel
theorem zt_X_home {x1 : Int} {x2 : Int} {f3 : Int} {f4 : Int} {f5 : Int} {f6 : Int} {f7 : Int} {f8 : Int} {f9 : Int} {f10 : Int} {f11 : Int} {f12 : Int} {f13 : Int} {f14 : Int} {f15 : Int} {f16 : Int} {f17 : Int} {f18 : Int} {f19 : Int} {f20 : Int} {f21 : Int} {f22 : Int} {f23 : Int} {f24 : Int} {f25 : Int} {f26 : Int} {f27 : Int} {f30 : Int} {f31 : Int} {f32 : Int} {f33 : Int} {f34 : Int} {g0 : (Int → Int)} {g1 : (Int → Int)} {g2 : (Int → Int)} {g3 : (Int → Int)} {g4 : (Int → Int)} {g5 : (Int → Int)} {g6 : (Int → Int)} {g7 : (Int → Int)} {g8 : (Int → Int)} {g9 : (Int → Int)} {g10 : (Int → Int)} {g11 : (Int → Int)} {g12 : (Int → Int)} {g13 : (Int → Int)} {g14 : (Int → Int)} {g15 : (Int → Int)} {g16 : (Int → Int)} {g17 : (Int → Int)} {g18 : (Int → Int)} {g19 : (Int → Int)} {g20 : (Int → Int)} {g21 : (Int → Int)} {g22 : (Int → Int)} {o : Int × Int × Int × Int × Int × Int × Int × Int × Int × Int × Int × Int × Int × Int × Int × Int × Int × Int × Int × (Int → Int) × (Int → Int) × (Int → Int) × (Int → Int) × (Int → Int) × (Int → Int) × (Int → Int) × (Int → Int) × (Int → Int) × (Int → Int) × (Int → Int) × (Int → Int) × (Int → Int)} (h : zf_X_home x1 x2 f3 f4 f5 f6 f7 f8 f9 f10 f11 f12 f13 f14 f15 f16 f17 f18 f19 f20 f21 f22 f23 f24 f25 f26 f27 f30 f31 f32 f33 f34 g0 g1 g2 g3 g4 g5 g6 g7 g8 g9 g10 g11 g12 g13 g14 g15 g16 g17 g18 g19 g20 g21 g22 = some o) : zv_Fn z_TB z_cl z_KX zy_X_home zxm188 (6, 360) [.inr 0, .inl x1, .inl x2] [.inr 3, .inr 1000, .inr 1000, .inl f3, .inl f4, .inl f5, .inl f6, .inl f7, .inl f8, .inl f9, .inl f10, .inl f11, .inl f12, .inl f13, .inl f14, .inl f15, .inl f16, .inl f17, .inl f18, .inl f19, .inl f20, .inl f21, .inl f22, .inl f23, .inl f24, .inl f25, .inl f26, .inl f27, .inr 1000, .inr 1000, .inl f30, .inl f31, .inl f32, .inl f33, .inl f34] [g0, g1, g2, g3, g4, g5, g6, g7, g8, g9, g10, g11, g12, g13, g14, g15, g16, g17, g18, g19, g20, g21, g22] (some o.1) [.inr 3, .inr 1000, .inr 1000, .inl o.2.1, .inl o.2.2.1, .inl o.2.2.2.1, .inl f6, .inl f7, .inl o.2.2.2.2.1, .inl f9, .inl f10, .inl f11, .inl f12, .inl f13, .inl o.2.2.2.2.2.1, .inl f15, .inl o.2.2.2.2.2.2.1, .inl f17, .inl f18, .inl f19, .inl o.2.2.2.2.2.2.2.1, .inl o.2.2.2.2.2.2.2.2.1, .inl o.2.2.2.2.2.2.2.2.2.1, .inl o.2.2.2.2.2.2.2.2.2.2.1, .inl o.2.2.2.2.2.2.2.2.2.2.2.1, .inl o.2.2.2.2.2.2.2.2.2.2.2.2.1, .inl f26, .inl o.2.2.2.2.2.2.2.2.2.2.2.2.2.1, .inr 1000, .inr 1000, .inl o.2.2.2.2.2.2.2.2.2.2.2.2.2.2.1, .inl o.2.2.2.2.2.2.2.2.2.2.2.2.2.2.2.1, .inl o.2.2.2.2.2.2.2.2.2.2.2.2.2.2.2.2.1, .inl o.2.2.2.2.2.2.2.2.2.2.2.2.2.2.2.2.2.1, .inl o.2.2.2.2.2.2.2.2.2.2.2.2.2.2.2.2.2.2.1] [o.2.2.2.2.2.2.2.2.2.2.2.2.2.2.2.2.2.2.2.1, o.2.2.2.2.2.2.2.2.2.2.2.2.2.2.2.2.2.2.2.2.1, g2, g3, g4, g5, g6, g7, g8, o.2.2.2.2.2.2.2.2.2.2.2.2.2.2.2.2.2.2.2.2.2.1, g10, o.2.2.2.2.2.2.2.2.2.2.2.2.2.2.2.2.2.2.2.2.2.2.1, o.2.2.2.2.2.2.2.2.2.2.2.2.2.2.2.2.2.2.2.2.2.2.2.1, o.2.2.2.2.2.2.2.2.2.2.2.2.2.2.2.2.2.2.2.2.2.2.2.2.1, o.2.2.2.2.2.2.2.2.2.2.2.2.2.2.2.2.2.2.2.2.2.2.2.2.2.1, o.2.2.2.2.2.2.2.2.2.2.2.2.2.2.2.2.2.2.2.2.2.2.2.2.2.2.1, g16, o.2.2.2.2.2.2.2.2.2.2.2.2.2.2.2.2.2.2.2.2.2.2.2.2.2.2.2.1, g18, o.2.2.2.2.2.2.2.2.2.2.2.2.2.2.2.2.2.2.2.2.2.2.2.2.2.2.2.2.1, o.2.2.2.2.2.2.2.2.2.2.2.2.2.2.2.2.2.2.2.2.2.2.2.2.2.2.2.2.2.1, o.2.2.2.2.2.2.2.2.2.2.2.2.2.2.2.2.2.2.2.2.2.2.2.2.2.2.2.2.2.2.1, o.2.2.2.2.2.2.2.2.2.2.2.2.2.2.2.2.2.2.2.2.2.2.2.2.2.2.2.2.2.2.2] := zv_meth (K := (z_KF0, z_KC0, z_KL0, z_KT0, [], [], [], none)) (FT := z_FT) (MT := z_MT) (n := 3) zxp188 (z_ks0 _ (fun _ h => List.mem_cons_of_mem _ h) _ _ _ _ (fun j r h _ => by cases h)) (fun _ _ => zs_KX_p) zyw_X_home (fun va F G h => by obtain ⟨rfl, _⟩ := h; rfl) (fun va F G h => by obtain ⟨rfl, _⟩ := h; rfl) rfl fun good va F G hB hret hvret hP => by
  obtain ⟨rfl, rfl, rfl⟩ := hP
  have l0 : ∀ (n : Nat) (x1 : Int) (x2 : Int) (x3 : Int) (f3 : Int) (f4 : Int) (f5 : Int) (f8 : Int) (f14 : Int) (f16 : Int) (f20 : Int) (f21 : Int) (f22 : Int) (f23 : Int) (f24 : Int) (f25 : Int) (f27 : Int) (f30 : Int) (f31 : Int) (f32 : Int) (f33 : Int) (f34 : Int) (g0 : (Int → Int)) (g1 : (Int → Int)) (g9 : (Int → Int)) (g11 : (Int → Int)) (g12 : (Int → Int)) (g13 : (Int → Int)) (g14 : (Int → Int)) (g15 : (Int → Int)) (g17 : (Int → Int)) (g19 : (Int → Int)) (g20 : (Int → Int)) (g21 : (Int → Int)) (g22 : (Int → Int)) (q : ((Int × Int × Int × Int × Int × Int × Int × (Int → Int) × (Int → Int) × (Int → Int) × (Int → Int) × (Int → Int) × (Int → Int) × (Int → Int)) ⊕ (Int × Int × Int × Int × Int × Int × Int × Int × Int × Int × Int × Int × Int × Int × Int × Int × Int × Int × Int × (Int → Int) × (Int → Int) × (Int → Int) × (Int → Int) × (Int → Int) × (Int → Int) × (Int → Int) × (Int → Int) × (Int → Int) × (Int → Int) × (Int → Int) × (Int → Int) × (Int → Int)))), zf_X_home_l0 x1 x2 f3 f4 f5 f8 f13 f14 f15 f17 f18 f19 f20 f21 f23 f24 f25 f27 g0 g5 g6 g7 g8 g10 g11 g12 g15 g17 g19 n x3 f16 f22 f30 f31 f32 f33 f34 g1 g9 g13 g14 g20 g21 g22 = some q → (Sum.elim (fun e : Int × Int × Int × Int × Int × Int × Int × (Int → Int) × (Int → Int) × (Int → Int) × (Int → Int) × (Int → Int) × (Int → Int) × (Int → Int) => good 116 [.inr 1000, .inr 1000, .inr 1000, .inr 1000] [] [.inr 3, .inr 2, .inr 3, .inl f3, .inl f4, .inl f5, .inl f6, .inl f7, .inl f8, .inl f9, .inl f10, .inl f11, .inl f12, .inl f13, .inl f14, .inl f15, .inl e.1, .inl f17, .inl f18, .inl f19, .inl f20, .inl f21, .inl e.2.1, .inl f23, .inl f24, .inl f25, .inl f26, .inl f27, .inr 1000, .inr 1000, .inl e.2.2.1, .inl e.2.2.2.1, .inl e.2.2.2.2.1, .inl e.2.2.2.2.2.1, .inl e.2.2.2.2.2.2.1] [g0, e.2.2.2.2.2.2.2.1, g2, g3, g4, g5, g6, g7, g8, e.2.2.2.2.2.2.2.2.1, g10, g11, g12, e.2.2.2.2.2.2.2.2.2.1, e.2.2.2.2.2.2.2.2.2.2.1, g15, g16, g17, g18, g19, e.2.2.2.2.2.2.2.2.2.2.2.1, e.2.2.2.2.2.2.2.2.2.2.2.2.1, e.2.2.2.2.2.2.2.2.2.2.2.2.2]) (fun w : Int × Int × Int × Int × Int × Int × Int × Int × Int × Int × Int × Int × Int × Int × Int × Int × Int × Int × Int × (Int → Int) × (Int → Int) × (Int → Int) × (Int → Int) × (Int → Int) × (Int → Int) × (Int → Int) × (Int → Int) × (Int → Int) × (Int → Int) × (Int → Int) × (Int → Int) × (Int → Int) => w = o) q) → good 33 [.inr 0, .inl x1, .inl x2, .inl x3] [] [.inr 3, .inr 2, .inr 3, .inl f3, .inl f4, .inl f5, .inl f6, .inl f7, .inl f8, .inl f9, .inl f10, .inl f11, .inl f12, .inl f13, .inl f14, .inl f15, .inl f16, .inl f17, .inl f18, .inl f19, .inl f20, .inl f21, .inl f22, .inl f23, .inl f24, .inl f25, .inl f26, .inl f27, .inr 1000, .inr 1000, .inl f30, .inl f31, .inl f32, .inl f33, .inl f34] [g0, g1, g2, g3, g4, g5, g6, g7, g8, g9, g10, g11, g12, g13, g14, g15, g16, g17, g18, g19, g20, g21, g22] := by
    intro n
    induction n with
    | zero => intro x1 x2 x3 f3 f4 f5 f8 f14 f16 f20 f21 f22 f23 f24 f25 f27 f30 f31 f32 f33 f34 g0 g1 g9 g11 g12 g13 g14 g15 g17 g19 g20 g21 g22 q h; exact absurd (show none = some q from h) (fun h => by cases h)
    | succ n ih =>
      intro x1 x2 x3 f3 f4 f5 f8 f14 f16 f20 f21 f22 f23 f24 f25 f27 f30 f31 f32 f33 f34 g0 g1 g9 g11 g12 g13 g14 g15 g17 g19 g20 g21 g22 q h hK
      replace h : zf_X_home_l0_b x1 x2 f3 f4 f5 f8 f13 f14 f15 f17 f18 f19 f20 f21 f23 f24 f25 f27 g0 g5 g6 g7 g8 g10 g11 g12 g15 g17 g19 (zf_X_home_l0 x1 x2 f3 f4 f5 f8 f13 f14 f15 f17 f18 f19 f20 f21 f23 f24 f25 f27 g0 g5 g6 g7 g8 g10 g11 g12 g15 g17 g19 n) x3 f16 f22 f30 f31 f32 f33 f34 g1 g9 g13 g14 g20 g21 g22 = some q := h
      unfold zf_X_home_l0_b at h
      refine zv_ild hB zd188_33 rfl rfl ?_
      refine zv_con hB zd188_34 rfl ?_
      refine zv_cgt hB zd188_36 rfl (fun hc5 => ?_) (fun hc5 => ?_)
      · rw [if_pos hc5] at h
        have hq := Option.some.inj h
        subst hq
        refine zv_wk hB (L' := [.inr 1000, .inr 1000, .inr 1000, .inr 1000]) (F' := [.inr 3, .inr 2, .inr 3, .inl f3, .inl f4, .inl f5, .inl f6, .inl f7, .inl f8, .inl f9, .inl f10, .inl f11, .inl f12, .inl f13, .inl f14, .inl f15, .inl f16, .inl f17, .inl f18, .inl f19, .inl f20, .inl f21, .inl f22, .inl f23, .inl f24, .inl f25, .inl f26, .inl f27, .inr 1000, .inr 1000, .inl f30, .inl f31, .inl f32, .inl f33, .inl f34]) ⟨fun (h : zv_is (.inr 1000)) => (Nat.lt_irrefl 1000 h).elim, fun (h : zv_is (.inr 1000)) => (Nat.lt_irrefl 1000 h).elim, fun (h : zv_is (.inr 1000)) => (Nat.lt_irrefl 1000 h).elim, fun (h : zv_is (.inr 1000)) => (Nat.lt_irrefl 1000 h).elim, trivial⟩ ⟨fun _ => rfl, fun _ => rfl, fun _ => rfl, fun _ => rfl, fun _ => rfl, fun _ => rfl, fun _ => rfl, fun _ => rfl, fun _ => rfl, fun _ => rfl, fun _ => rfl, fun _ => rfl, fun _ => rfl, fun _ => rfl, fun _ => rfl, fun _ => rfl, fun _ => rfl, fun _ => rfl, fun _ => rfl, fun _ => rfl, fun _ => rfl, fun _ => rfl, fun _ => rfl, fun _ => rfl, fun _ => rfl, fun _ => rfl, fun _ => rfl, fun _ => rfl, fun (h : zv_is (.inr 1000)) => (Nat.lt_irrefl 1000 h).elim, fun (h : zv_is (.inr 1000)) => (Nat.lt_irrefl 1000 h).elim, fun _ => rfl, fun _ => rfl, fun _ => rfl, fun _ => rfl, fun _ => rfl, trivial⟩ ?_
        exact hK
      · rw [if_neg (Int.not_lt.mpr hc5)] at h
        refine zv_ald hB zd188_39 rfl rfl rfl ?_
        refine zv_getr hB zd188_40 rfl ?_
        obtain ⟨r6, hr6, h⟩ := zi_bind h
        refine zv_cv hB (zv_emq (va2 := [.inr 17]) (F := [.inr 3, .inr 2, .inr 3, .inl f3, .inl f4, .inl f5, .inl f6, .inl f7, .inl f8, .inl f9, .inl f10, .inl f11, .inl f12, .inl f13, .inl f14, .inl f15, .inl f16, .inl f17, .inl f18, .inl f19, .inl f20, .inl f21, .inl f22, .inl f23, .inl f24, .inl f25, .inl f26, .inl f27, .inr 1000, .inr 1000, .inl f30, .inl f31, .inl f32, .inl f33, .inl f34]) (F' := [.inr 3, .inr 2, .inr 3, .inl f3, .inl f4, .inl f5, .inl f6, .inl f7, .inl f8, .inl f9, .inl f10, .inl f11, .inl f12, .inl f13, .inl f14, .inl f15, .inl f16, .inl f17, .inl f18, .inl f19, .inl f20, .inl f21, .inl r6.1, .inl f23, .inl f24, .inl f25, .inl f26, .inl f27, .inr 1000, .inr 1000, .inl f30, .inl f31, .inl f32, .inl f33, .inl f34]) (G := [g0, g1, g2, g3, g4, g5, g6, g7, g8, g9, g10, g11, g12, g13, g14, g15, g16, g17, g18, g19, g20, g21, g22]) (G' := [g0, g1, g2, g3, g4, g5, g6, g7, g8, g9, g10, g11, g12, r6.2.1, r6.2.2, g15, g16, g17, g18, g19, g20, g21, g22]) (ρ := [17, 18, 22, 19, 24]) (φ := [22]) (ψ := [13, 17, 14, 19]) [none, none, none, none, none, none, none, none, none, none, none, none, none, none, none, none, none, none, none, none, none, none, some 0, none, none, none, none, none, none, none, none, none, none, none, none] [none, none, none, none, none, none, none, none, none, none, none, none, none, some 0, some 2, none, none, some 1, none, some 3, none, none, none] zyw_Sky_beginNight zyw_X_home zye_X_home (by decide +kernel) (zt_Sky_beginNight hr6) ⟨⟨_, rfl, fun _ => rfl⟩, trivial⟩ ⟨rfl, rfl, rfl, rfl, trivial⟩ rfl rfl rfl rfl rfl rfl rfl) zd188_43 zxt156 rfl (by decide) (by decide) rfl ?_
        refine zv_ald hB zd188_46 rfl rfl rfl ?_
        refine zv_getr hB zd188_47 rfl ?_
        refine zv_ald hB zd188_50 rfl rfl rfl ?_
        refine zv_getr hB zd188_51 rfl ?_
        refine zv_ald hB zd188_54 rfl rfl rfl ?_
        refine zv_getq hB zd188_55 rfl rfl rfl ?_
        obtain ⟨r7, hr7, h⟩ := zi_bind h
        refine zv_cv hB (zv_emq (va2 := [.inr 25, .inr 17, .inr 3]) (F := [.inr 3, .inr 2, .inr 3, .inl f3, .inl f4, .inl f5, .inl f6, .inl f7, .inl f8, .inl f9, .inl f10, .inl f11, .inl f12, .inl f13, .inl f14, .inl f15, .inl f16, .inl f17, .inl f18, .inl f19, .inl f20, .inl f21, .inl r6.1, .inl f23, .inl f24, .inl f25, .inl f26, .inl f27, .inr 1000, .inr 1000, .inl f30, .inl f31, .inl f32, .inl f33, .inl f34]) (F' := [.inr 3, .inr 2, .inr 3, .inl f3, .inl f4, .inl f5, .inl f6, .inl f7, .inl f8, .inl f9, .inl f10, .inl f11, .inl f12, .inl f13, .inl f14, .inl f15, .inl f16, .inl f17, .inl f18, .inl f19, .inl f20, .inl f21, .inl r6.1, .inl f23, .inl f24, .inl f25, .inl f26, .inl f27, .inr 17, .inr 3, .inl r7.1, .inl f31, .inl f32, .inl f33, .inl f34]) (G := [g0, g1, g2, g3, g4, g5, g6, g7, g8, g9, g10, g11, g12, r6.2.1, r6.2.2, g15, g16, g17, g18, g19, g20, g21, g22]) (G' := [g0, g1, g2, g3, g4, g5, g6, g7, g8, g9, g10, g11, g12, r6.2.1, r6.2.2, g15, g16, g17, g18, g19, r7.2, g21, g22]) (ρ := [25, 17, 3, 26]) (φ := [28, 29, 30]) (ψ := [20]) [none, none, none, none, none, none, none, none, none, none, none, none, none, none, none, none, none, none, none, none, none, none, none, none, none, none, none, none, some 0, some 1, some 2, none, none, none, none] [none, none, none, none, none, none, none, none, none, none, none, none, none, none, none, none, none, none, none, none, some 0, none, none] zyw_View_open zyw_X_home zye_X_home (by decide +kernel) (zt_View_open hr7) ⟨⟨_, rfl, fun (h : zv_is (.inr 1000)) => (Nat.lt_irrefl 1000 h).elim⟩, ⟨_, rfl, fun (h : zv_is (.inr 1000)) => (Nat.lt_irrefl 1000 h).elim⟩, ⟨_, rfl, fun _ => rfl⟩, trivial⟩ ⟨rfl, trivial⟩ rfl rfl rfl rfl rfl rfl rfl) zd188_58 zxt84 rfl (by decide) (by decide) rfl ?_
        refine zv_ald hB zd188_61 rfl rfl rfl ?_
        refine zv_getr hB zd188_62 rfl ?_
        refine zv_ild hB zd188_65 rfl rfl ?_
        refine zv_ild hB zd188_66 rfl rfl ?_
        obtain ⟨r8, hr8, h⟩ := zi_bind h
        refine zv_cv hB (zv_emq (va2 := [.inr 25, .inl x1, .inl x2]) (F := [.inr 3, .inr 2, .inr 3, .inl f3, .inl f4, .inl f5, .inl f6, .inl f7, .inl f8, .inl f9, .inl f10, .inl f11, .inl f12, .inl f13, .inl f14, .inl f15, .inl f16, .inl f17, .inl f18, .inl f19, .inl f20, .inl f21, .inl r6.1, .inl f23, .inl f24, .inl f25, .inl f26, .inl f27, .inr 17, .inr 3, .inl r7.1, .inl f31, .inl f32, .inl f33, .inl f34]) (F' := [.inr 3, .inr 2, .inr 3, .inl f3, .inl f4, .inl f5, .inl f6, .inl f7, .inl f8, .inl f9, .inl f10, .inl f11, .inl f12, .inl f13, .inl f14, .inl f15, .inl r8.2.2.2.2.2.1, .inl f17, .inl f18, .inl f19, .inl f20, .inl f21, .inl r6.1, .inl f23, .inl f24, .inl f25, .inl f26, .inl f27, .inr 17, .inr 3, .inl r8.2.2.2.1, .inl r8.1, .inl r8.2.1, .inl r8.2.2.1, .inl r8.2.2.2.2.1]) (G := [g0, g1, g2, g3, g4, g5, g6, g7, g8, g9, g10, g11, g12, r6.2.1, r6.2.2, g15, g16, g17, g18, g19, r7.2, g21, g22]) (G' := [g0, r8.2.2.2.2.2.2.1, g2, g3, g4, g5, g6, g7, g8, r8.2.2.2.2.2.2.2, g10, g11, g12, r6.2.1, r6.2.2, g15, g16, g17, g18, g19, r7.2, g21, g22]) (ρ := [25, 3, 5, 17, 18, 19, 20, 9, 10, 11, 12, 13, 14]) (φ := [29, 28, 31, 32, 21, 22, 33, 20, 24, 25, 23, 13, 30, 34, 15, 16, 17]) (ψ := [1, 13, 14, 15, 5, 6, 7, 8, 9, 10]) [none, none, none, none, none, none, none, none, none, none, none, none, none, some 11, none, some 14, some 15, some 16, none, none, some 7, some 4, some 5, some 10, some 8, some 9, none, none, some 1, some 0, some 12, some 2, some 3, some 6, some 13] [none, some 0, none, none, none, some 4, some 5, some 6, some 7, some 8, some 9, none, none, some 1, some 2, some 3, none, none, none, none, none, none, none] zyw_View_look zyw_X_home zye_X_home (by decide +kernel) (zt_View_look hr8) ⟨⟨_, rfl, fun _ => rfl⟩, ⟨_, rfl, fun _ => rfl⟩, ⟨_, rfl, fun _ => rfl⟩, ⟨_, rfl, fun _ => rfl⟩, ⟨_, rfl, fun _ => rfl⟩, ⟨_, rfl, fun _ => rfl⟩, ⟨_, rfl, fun _ => rfl⟩, ⟨_, rfl, fun _ => rfl⟩, ⟨_, rfl, fun _ => rfl⟩, ⟨_, rfl, fun _ => rfl⟩, ⟨_, rfl, fun _ => rfl⟩, ⟨_, rfl, fun _ => rfl⟩, ⟨_, rfl, fun _ => rfl⟩, ⟨_, rfl, fun _ => rfl⟩, ⟨_, rfl, fun _ => rfl⟩, ⟨_, rfl, fun _ => rfl⟩, ⟨_, rfl, fun _ => rfl⟩, trivial⟩ ⟨rfl, rfl, rfl, rfl, rfl, rfl, rfl, rfl, rfl, rfl, trivial⟩ rfl rfl rfl rfl rfl rfl rfl) zd188_67 zxt85 rfl (by decide) (by decide) rfl ?_
        refine zv_ald hB zd188_70 rfl rfl rfl ?_
        refine zv_getr hB zd188_71 rfl ?_
        refine zv_getf hB zd188_74 rfl rfl (fun _ _ => ?_)
        refine zv_ald hB zd188_77 rfl rfl rfl ?_
        refine zv_getr hB zd188_78 rfl ?_
        refine zv_getf hB zd188_81 rfl rfl (fun _ _ => ?_)
        refine zv_cne hB zd188_84 rfl (fun hc9 => ?_) (fun hc9 => ?_)
        · rw [if_neg hc9] at h
          refine zv_iincw hB zd188_110 rfl rfl ?_
          refine zv_goto hB zd188_113 rfl ?_
          refine zv_wk hB (L' := [.inr 0, .inl x1, .inl x2, .inl (zi_w (x3 + 1))]) (F' := [.inr 3, .inr 2, .inr 3, .inl f3, .inl f4, .inl f5, .inl f6, .inl f7, .inl f8, .inl f9, .inl f10, .inl f11, .inl f12, .inl f13, .inl f14, .inl f15, .inl r8.2.2.2.2.2.1, .inl f17, .inl f18, .inl f19, .inl f20, .inl f21, .inl r6.1, .inl f23, .inl f24, .inl f25, .inl f26, .inl f27, .inr 1000, .inr 1000, .inl r8.2.2.2.1, .inl r8.1, .inl r8.2.1, .inl r8.2.2.1, .inl r8.2.2.2.2.1]) ⟨fun _ => rfl, fun _ => rfl, fun _ => rfl, fun _ => rfl, trivial⟩ ⟨fun _ => rfl, fun _ => rfl, fun _ => rfl, fun _ => rfl, fun _ => rfl, fun _ => rfl, fun _ => rfl, fun _ => rfl, fun _ => rfl, fun _ => rfl, fun _ => rfl, fun _ => rfl, fun _ => rfl, fun _ => rfl, fun _ => rfl, fun _ => rfl, fun _ => rfl, fun _ => rfl, fun _ => rfl, fun _ => rfl, fun _ => rfl, fun _ => rfl, fun _ => rfl, fun _ => rfl, fun _ => rfl, fun _ => rfl, fun _ => rfl, fun _ => rfl, fun (h : zv_is (.inr 1000)) => (Nat.lt_irrefl 1000 h).elim, fun (h : zv_is (.inr 1000)) => (Nat.lt_irrefl 1000 h).elim, fun _ => rfl, fun _ => rfl, fun _ => rfl, fun _ => rfl, fun _ => rfl, trivial⟩ ?_
          exact ih _ _ _ _ _ _ _ _ _ _ _ _ _ _ _ _ _ _ _ _ _ _ _ _ _ _ _ _ _ _ _ _ _ _ q h hK
        · rw [if_pos hc9] at h
          refine zv_ald hB zd188_87 rfl rfl rfl ?_
          refine zv_getr hB zd188_88 rfl ?_
          obtain ⟨r10, hr10, h⟩ := zi_bind h
          refine zv_cv hB (zv_emq (va2 := [.inr 25]) (F := [.inr 3, .inr 2, .inr 3, .inl f3, .inl f4, .inl f5, .inl f6, .inl f7, .inl f8, .inl f9, .inl f10, .inl f11, .inl f12, .inl f13, .inl f14, .inl f15, .inl r8.2.2.2.2.2.1, .inl f17, .inl f18, .inl f19, .inl f20, .inl f21, .inl r6.1, .inl f23, .inl f24, .inl f25, .inl f26, .inl f27, .inr 17, .inr 3, .inl r8.2.2.2.1, .inl r8.1, .inl r8.2.1, .inl r8.2.2.1, .inl r8.2.2.2.2.1]) (F' := [.inr 3, .inr 2, .inr 3, .inl f3, .inl f4, .inl f5, .inl f6, .inl f7, .inl f8, .inl f9, .inl f10, .inl f11, .inl f12, .inl f13, .inl f14, .inl f15, .inl r10.2.2.1, .inl f17, .inl f18, .inl f19, .inl f20, .inl f21, .inl r6.1, .inl f23, .inl f24, .inl f25, .inl f26, .inl f27, .inr 17, .inr 3, .inl r8.2.2.2.1, .inl r10.1, .inl r10.2.1, .inl r8.2.2.1, .inl r8.2.2.2.2.1]) (G := [g0, r8.2.2.2.2.2.2.1, g2, g3, g4, g5, g6, g7, g8, r8.2.2.2.2.2.2.2, g10, g11, g12, r6.2.1, r6.2.2, g15, g16, g17, g18, g19, r7.2, g21, g22]) (G' := [g0, r10.2.2.2.2.1, g2, g3, g4, g5, g6, g7, g8, r10.2.2.2.2.2.2.2, g10, g11, g12, r6.2.1, r6.2.2, g15, g16, g17, g18, g19, r10.2.2.2.2.2.1, r10.2.2.2.1, r10.2.2.2.2.2.2.1]) (ρ := [25, 27, 3, 5, 17, 26, 28, 20, 19, 18, 9, 10, 11, 12, 13, 14]) (φ := [29, 18, 31, 32, 28, 21, 22, 33, 15, 16, 19]) (ψ := [21, 1, 20, 22, 15, 14, 13, 5, 6, 7, 8, 9, 10]) [none, none, none, none, none, none, none, none, none, none, none, none, none, none, none, some 8, some 9, none, some 1, some 10, none, some 5, some 6, none, none, none, none, none, some 4, some 0, none, some 2, some 3, some 7, none] [none, some 1, none, none, none, some 7, some 8, some 9, some 10, some 11, some 12, none, none, some 6, some 5, some 4, none, none, none, none, some 2, some 0, some 3] zyw_View_draw zyw_X_home zye_X_home (by decide +kernel) (zt_View_draw hr10) ⟨⟨_, rfl, fun _ => rfl⟩, ⟨_, rfl, fun _ => rfl⟩, ⟨_, rfl, fun _ => rfl⟩, ⟨_, rfl, fun _ => rfl⟩, ⟨_, rfl, fun _ => rfl⟩, ⟨_, rfl, fun _ => rfl⟩, ⟨_, rfl, fun _ => rfl⟩, ⟨_, rfl, fun _ => rfl⟩, ⟨_, rfl, fun _ => rfl⟩, ⟨_, rfl, fun _ => rfl⟩, ⟨_, rfl, fun _ => rfl⟩, trivial⟩ ⟨rfl, rfl, rfl, rfl, rfl, rfl, rfl, rfl, rfl, rfl, rfl, rfl, rfl, trivial⟩ rfl rfl rfl rfl rfl rfl rfl) zd188_91 zxt97 rfl (by decide) (by decide) rfl ?_
          refine zv_ald hB zd188_94 rfl rfl rfl ?_
          refine zv_getr hB zd188_95 rfl ?_
          refine zv_ald hB zd188_98 rfl rfl rfl ?_
          refine zv_getr hB zd188_99 rfl ?_
          obtain ⟨r11, hr11, h⟩ := zi_bind h
          refine zv_cv hB (zv_emq (va2 := [.inr 25, .inr 1]) (F := [.inr 3, .inr 2, .inr 3, .inl f3, .inl f4, .inl f5, .inl f6, .inl f7, .inl f8, .inl f9, .inl f10, .inl f11, .inl f12, .inl f13, .inl f14, .inl f15, .inl r10.2.2.1, .inl f17, .inl f18, .inl f19, .inl f20, .inl f21, .inl r6.1, .inl f23, .inl f24, .inl f25, .inl f26, .inl f27, .inr 17, .inr 3, .inl r8.2.2.2.1, .inl r10.1, .inl r10.2.1, .inl r8.2.2.1, .inl r8.2.2.2.2.1]) (F' := [.inr 3, .inr 2, .inr 3, .inl f3, .inl f4, .inl f5, .inl f6, .inl f7, .inl f8, .inl f9, .inl f10, .inl f11, .inl f12, .inl f13, .inl f14, .inl f15, .inl r10.2.2.1, .inl f17, .inl f18, .inl f19, .inl f20, .inl f21, .inl r6.1, .inl f23, .inl f24, .inl f25, .inl f26, .inl f27, .inr 17, .inr 3, .inl r8.2.2.2.1, .inl r10.1, .inl r10.2.1, .inl r8.2.2.1, .inl r8.2.2.2.2.1]) (G := [g0, r10.2.2.2.2.1, g2, g3, g4, g5, g6, g7, g8, r10.2.2.2.2.2.2.2, g10, g11, g12, r6.2.1, r6.2.2, g15, g16, g17, g18, g19, r10.2.2.2.2.2.1, r10.2.2.2.1, r10.2.2.2.2.2.2.1]) (G' := [g0, r10.2.2.2.2.1, g2, g3, g4, g5, g6, g7, g8, r10.2.2.2.2.2.2.2, g10, g11, g12, r6.2.1, r6.2.2, g15, g16, g17, g18, g19, r10.2.2.2.2.2.1, r10.2.2.2.1, r10.2.2.2.2.2.2.1]) (ρ := [25, 1, 27, 15]) (φ := []) (ψ := [21, 11]) [none, none, none, none, none, none, none, none, none, none, none, none, none, none, none, none, none, none, none, none, none, none, none, none, none, none, none, none, none, none, none, none, none, none, none] [none, none, none, none, none, none, none, none, none, none, none, some 1, none, none, none, none, none, none, none, none, none, some 0, none] zyw_View_hasLinesOf zyw_X_home zye_X_home (by decide +kernel) (zt_View_hasLinesOf hr11) trivial ⟨rfl, rfl, trivial⟩ rfl rfl rfl rfl rfl rfl rfl) zd188_102 zxt189 rfl (by decide) (by decide) rfl ?_
          refine zv_zeq hB zd188_105 rfl (fun hc12 => ?_) (fun hc12 => ?_)
          · rw [if_pos hc12] at h
            refine zv_iincw hB zd188_110 rfl rfl ?_
            refine zv_goto hB zd188_113 rfl ?_
            refine zv_wk hB (L' := [.inr 0, .inl x1, .inl x2, .inl (zi_w (x3 + 1))]) (F' := [.inr 3, .inr 2, .inr 3, .inl f3, .inl f4, .inl f5, .inl f6, .inl f7, .inl f8, .inl f9, .inl f10, .inl f11, .inl f12, .inl f13, .inl f14, .inl f15, .inl r10.2.2.1, .inl f17, .inl f18, .inl f19, .inl f20, .inl f21, .inl r6.1, .inl f23, .inl f24, .inl f25, .inl f26, .inl f27, .inr 1000, .inr 1000, .inl r8.2.2.2.1, .inl r10.1, .inl r10.2.1, .inl r8.2.2.1, .inl r8.2.2.2.2.1]) ⟨fun _ => rfl, fun _ => rfl, fun _ => rfl, fun _ => rfl, trivial⟩ ⟨fun _ => rfl, fun _ => rfl, fun _ => rfl, fun _ => rfl, fun _ => rfl, fun _ => rfl, fun _ => rfl, fun _ => rfl, fun _ => rfl, fun _ => rfl, fun _ => rfl, fun _ => rfl, fun _ => rfl, fun _ => rfl, fun _ => rfl, fun _ => rfl, fun _ => rfl, fun _ => rfl, fun _ => rfl, fun _ => rfl, fun _ => rfl, fun _ => rfl, fun _ => rfl, fun _ => rfl, fun _ => rfl, fun _ => rfl, fun _ => rfl, fun _ => rfl, fun (h : zv_is (.inr 1000)) => (Nat.lt_irrefl 1000 h).elim, fun (h : zv_is (.inr 1000)) => (Nat.lt_irrefl 1000 h).elim, fun _ => rfl, fun _ => rfl, fun _ => rfl, fun _ => rfl, fun _ => rfl, trivial⟩ ?_
            exact ih _ _ _ _ _ _ _ _ _ _ _ _ _ _ _ _ _ _ _ _ _ _ _ _ _ _ _ _ _ _ _ _ _ _ q h hK
          · rw [if_neg hc12] at h
            refine zv_ild hB zd188_108 rfl rfl ?_
            have hw : (x3, f3, f4, f5, f8, f14, r10.2.2.1, f20, f21, r6.1, f23, f24, f25, f27, r8.2.2.2.1, r10.1, r10.2.1, r8.2.2.1, r8.2.2.2.2.1, g0, r10.2.2.2.2.1, r10.2.2.2.2.2.2.2, g11, g12, r6.2.1, r6.2.2, g15, g17, g19, r10.2.2.2.2.2.1, r10.2.2.2.1, r10.2.2.2.2.2.2.1) = o := zi_rk (Option.some.inj h) hK
            refine zv_wk hB (L' := [.inr 0, .inl x1, .inl x2, .inl x3]) (F' := [.inr 3, .inr 1000, .inr 1000, .inl f3, .inl f4, .inl f5, .inl f6, .inl f7, .inl f8, .inl f9, .inl f10, .inl f11, .inl f12, .inl f13, .inl f14, .inl f15, .inl r10.2.2.1, .inl f17, .inl f18, .inl f19, .inl f20, .inl f21, .inl r6.1, .inl f23, .inl f24, .inl f25, .inl f26, .inl f27, .inr 1000, .inr 1000, .inl r8.2.2.2.1, .inl r10.1, .inl r10.2.1, .inl r8.2.2.1, .inl r8.2.2.2.2.1]) ⟨fun _ => rfl, fun _ => rfl, fun _ => rfl, fun _ => rfl, trivial⟩ ⟨fun _ => rfl, fun (h : zv_is (.inr 1000)) => (Nat.lt_irrefl 1000 h).elim, fun (h : zv_is (.inr 1000)) => (Nat.lt_irrefl 1000 h).elim, fun _ => rfl, fun _ => rfl, fun _ => rfl, fun _ => rfl, fun _ => rfl, fun _ => rfl, fun _ => rfl, fun _ => rfl, fun _ => rfl, fun _ => rfl, fun _ => rfl, fun _ => rfl, fun _ => rfl, fun _ => rfl, fun _ => rfl, fun _ => rfl, fun _ => rfl, fun _ => rfl, fun _ => rfl, fun _ => rfl, fun _ => rfl, fun _ => rfl, fun _ => rfl, fun _ => rfl, fun _ => rfl, fun (h : zv_is (.inr 1000)) => (Nat.lt_irrefl 1000 h).elim, fun (h : zv_is (.inr 1000)) => (Nat.lt_irrefl 1000 h).elim, fun _ => rfl, fun _ => rfl, fun _ => rfl, fun _ => rfl, fun _ => rfl, trivial⟩ ?_
            subst hw
            exact hret _ _ _ _ _ zd188_109 (by trivial) ⟨rfl, rfl, rfl⟩
  unfold zf_X_home at h
  refine zv_ild hB zd188_0 rfl rfl ?_
  refine zv_ild hB zd188_1 rfl rfl ?_
  obtain ⟨r1, hr1, h⟩ := zi_bind h
  refine zv_cs hB (zv_emq (va2 := [.inl x1, .inl x2]) (F := [.inr 3, .inr 1000, .inr 1000, .inl f3, .inl f4, .inl f5, .inl f6, .inl f7, .inl f8, .inl f9, .inl f10, .inl f11, .inl f12, .inl f13, .inl f14, .inl f15, .inl f16, .inl f17, .inl f18, .inl f19, .inl f20, .inl f21, .inl f22, .inl f23, .inl f24, .inl f25, .inl f26, .inl f27, .inr 1000, .inr 1000, .inl f30, .inl f31, .inl f32, .inl f33, .inl f34]) (F' := [.inr 3, .inr 1000, .inr 1000, .inl f3, .inl f4, .inl f5, .inl f6, .inl f7, .inl f8, .inl f9, .inl f10, .inl f11, .inl f12, .inl f13, .inl f14, .inl f15, .inl f16, .inl f17, .inl f18, .inl f19, .inl f20, .inl f21, .inl f22, .inl f23, .inl f24, .inl f25, .inl f26, .inl f27, .inr 1000, .inr 1000, .inl f30, .inl f31, .inl f32, .inl f33, .inl f34]) (G := [g0, g1, g2, g3, g4, g5, g6, g7, g8, g9, g10, g11, g12, g13, g14, g15, g16, g17, g18, g19, g20, g21, g22]) (G' := [g0, g1, g2, g3, g4, g5, g6, g7, g8, g9, g10, g11, g12, g13, g14, g15, g16, g17, g18, g19, g20, g21, g22]) (ρ := []) (φ := []) (ψ := []) [none, none, none, none, none, none, none, none, none, none, none, none, none, none, none, none, none, none, none, none, none, none, none, none, none, none, none, none, none, none, none, none, none, none, none] [none, none, none, none, none, none, none, none, none, none, none, none, none, none, none, none, none, none, none, none, none, none, none] zyw_X_isPlace zyw_X_home zye_X_home (by decide +kernel) (zt_X_isPlace hr1) trivial trivial rfl rfl rfl rfl rfl rfl rfl) zd188_2 zxt16 rfl (by decide) (by decide) rfl ?_
  refine zv_zne hB zd188_5 rfl (fun hc2 => ?_) (fun hc2 => ?_)
  · rw [if_neg hc2] at h
    refine zv_ald hB zd188_10 rfl rfl rfl ?_
    refine zv_ald hB zd188_11 rfl rfl rfl ?_
    refine zv_getr hB zd188_12 rfl ?_
    refine zv_ild hB zd188_15 rfl rfl ?_
    refine zv_ild hB zd188_16 rfl rfl ?_
    obtain ⟨r3, hr3, h⟩ := zi_bind h
    refine zv_cv hB (zv_emq (va2 := [.inr 0, .inr 1, .inl x1, .inl x2]) (F := [.inr 3, .inr 1000, .inr 1000, .inl f3, .inl f4, .inl f5, .inl f6, .inl f7, .inl f8, .inl f9, .inl f10, .inl f11, .inl f12, .inl f13, .inl f14, .inl f15, .inl f16, .inl f17, .inl f18, .inl f19, .inl f20, .inl f21, .inl f22, .inl f23, .inl f24, .inl f25, .inl f26, .inl f27, .inr 1000, .inr 1000, .inl f30, .inl f31, .inl f32, .inl f33, .inl f34]) (F' := [.inr 3, .inr 2, .inr 3, .inl r3.1, .inl r3.2.1, .inl r3.2.2.1, .inl f6, .inl f7, .inl r3.2.2.2.1, .inl f9, .inl f10, .inl f11, .inl f12, .inl f13, .inl r3.2.2.2.2.1, .inl f15, .inl r3.2.2.2.2.2.1, .inl f17, .inl f18, .inl f19, .inl f20, .inl f21, .inl f22, .inl f23, .inl f24, .inl f25, .inl f26, .inl f27, .inr 1000, .inr 1000, .inl f30, .inl f31, .inl f32, .inl f33, .inl f34]) (G := [g0, g1, g2, g3, g4, g5, g6, g7, g8, g9, g10, g11, g12, g13, g14, g15, g16, g17, g18, g19, g20, g21, g22]) (G' := [r3.2.2.2.2.2.2.1, r3.2.2.2.2.2.2.2.1, g2, g3, g4, g5, g6, g7, g8, r3.2.2.2.2.2.2.2.2.1, g10, r3.2.2.2.2.2.2.2.2.2.1, r3.2.2.2.2.2.2.2.2.2.2, g13, g14, g15, g16, g17, g18, g19, g20, g21, g22]) (ρ := [0, 1, 2, 3, 4, 5, 6, 7, 8, 9, 10, 11, 12, 13, 14, 15, 16]) (φ := [0, 1, 2, 3, 4, 5, 6, 7, 8, 9, 10, 11, 12, 13, 14, 15, 16, 17, 18, 19]) (ψ := [0, 1, 2, 3, 4, 5, 6, 7, 8, 9, 10, 11, 12]) [some 0, some 1, some 2, some 3, some 4, some 5, some 6, some 7, some 8, some 9, some 10, some 11, some 12, some 13, some 14, some 15, some 16, some 17, some 18, some 19, none, none, none, none, none, none, none, none, none, none, none, none, none, none, none] [some 0, some 1, some 2, some 3, some 4, some 5, some 6, some 7, some 8, some 9, some 10, some 11, some 12, none, none, none, none, none, none, none, none, none, none] zyw_X_lookAndDraw zyw_X_home zye_X_home (by decide +kernel) (zt_X_lookAndDraw hr3) ⟨⟨_, rfl, fun _ => rfl⟩, ⟨_, rfl, fun (h : zv_is (.inr 1000)) => (Nat.lt_irrefl 1000 h).elim⟩, ⟨_, rfl, fun (h : zv_is (.inr 1000)) => (Nat.lt_irrefl 1000 h).elim⟩, ⟨_, rfl, fun _ => rfl⟩, ⟨_, rfl, fun _ => rfl⟩, ⟨_, rfl, fun _ => rfl⟩, ⟨_, rfl, fun _ => rfl⟩, ⟨_, rfl, fun _ => rfl⟩, ⟨_, rfl, fun _ => rfl⟩, ⟨_, rfl, fun _ => rfl⟩, ⟨_, rfl, fun _ => rfl⟩, ⟨_, rfl, fun _ => rfl⟩, ⟨_, rfl, fun _ => rfl⟩, ⟨_, rfl, fun _ => rfl⟩, ⟨_, rfl, fun _ => rfl⟩, ⟨_, rfl, fun _ => rfl⟩, ⟨_, rfl, fun _ => rfl⟩, ⟨_, rfl, fun _ => rfl⟩, ⟨_, rfl, fun _ => rfl⟩, ⟨_, rfl, fun _ => rfl⟩, trivial⟩ ⟨rfl, rfl, rfl, rfl, rfl, rfl, rfl, rfl, rfl, rfl, rfl, rfl, rfl, trivial⟩ rfl rfl rfl rfl rfl rfl rfl) zd188_17 zxt96 rfl (by decide) (by decide) rfl ?_
    refine zv_ald hB zd188_20 rfl rfl rfl ?_
    refine zv_getr hB zd188_21 rfl ?_
    refine zv_ald hB zd188_24 rfl rfl rfl ?_
    refine zv_getr hB zd188_25 rfl ?_
    obtain ⟨r4, hr4, h⟩ := zi_bind h
    refine zv_cv hB (zv_emq (va2 := [.inr 17, .inr 2]) (F := [.inr 3, .inr 2, .inr 3, .inl r3.1, .inl r3.2.1, .inl r3.2.2.1, .inl f6, .inl f7, .inl r3.2.2.2.1, .inl f9, .inl f10, .inl f11, .inl f12, .inl f13, .inl r3.2.2.2.2.1, .inl f15, .inl r3.2.2.2.2.2.1, .inl f17, .inl f18, .inl f19, .inl f20, .inl f21, .inl f22, .inl f23, .inl f24, .inl f25, .inl f26, .inl f27, .inr 1000, .inr 1000, .inl f30, .inl f31, .inl f32, .inl f33, .inl f34]) (F' := [.inr 3, .inr 2, .inr 3, .inl r3.1, .inl r3.2.1, .inl r3.2.2.1, .inl f6, .inl f7, .inl r3.2.2.2.1, .inl f9, .inl f10, .inl f11, .inl f12, .inl f13, .inl r3.2.2.2.2.1, .inl f15, .inl r3.2.2.2.2.2.1, .inl f17, .inl f18, .inl f19, .inl r4.1, .inl r4.2.1, .inl r4.2.2.1, .inl r4.2.2.2.1, .inl r4.2.2.2.2.1, .inl r4.2.2.2.2.2.1, .inl f26, .inl r4.2.2.2.2.2.2.1, .inr 1000, .inr 1000, .inl f30, .inl f31, .inl f32, .inl f33, .inl f34]) (G := [r3.2.2.2.2.2.2.1, r3.2.2.2.2.2.2.2.1, g2, g3, g4, g5, g6, g7, g8, r3.2.2.2.2.2.2.2.2.1, g10, r3.2.2.2.2.2.2.2.2.2.1, r3.2.2.2.2.2.2.2.2.2.2, g13, g14, g15, g16, g17, g18, g19, g20, g21, g22]) (G' := [r3.2.2.2.2.2.2.1, r3.2.2.2.2.2.2.2.1, g2, g3, g4, g5, g6, g7, g8, r3.2.2.2.2.2.2.2.2.1, g10, r3.2.2.2.2.2.2.2.2.2.1, r3.2.2.2.2.2.2.2.2.2.2, r4.2.2.2.2.2.2.2.1, r4.2.2.2.2.2.2.2.2.1, r4.2.2.2.2.2.2.2.2.2.1, g16, r4.2.2.2.2.2.2.2.2.2.2.1, g18, r4.2.2.2.2.2.2.2.2.2.2.2, g20, g21, g22]) (ρ := [17, 2, 6, 18, 7, 19, 8, 20, 21, 22, 23, 24]) (φ := [9, 20, 6, 21, 7, 22, 12, 23, 10, 24, 11, 25, 26, 27]) (ψ := [2, 13, 3, 14, 4, 15, 16, 17, 18, 19]) [none, none, none, none, none, none, some 2, some 4, none, some 0, some 8, some 10, some 6, none, none, none, none, none, none, none, some 1, some 3, some 5, some 7, some 9, some 11, some 12, some 13, none, none, none, none, none, none, none] [none, none, some 0, some 2, some 4, none, none, none, none, none, none, none, none, some 1, some 3, some 5, some 6, some 7, some 8, some 9, none, none, none] zyw_Sky_copyFrom zyw_X_home zye_X_home (by decide +kernel) (zt_Sky_copyFrom hr4) ⟨⟨_, rfl, fun _ => rfl⟩, ⟨_, rfl, fun _ => rfl⟩, ⟨_, rfl, fun _ => rfl⟩, ⟨_, rfl, fun _ => rfl⟩, ⟨_, rfl, fun _ => rfl⟩, ⟨_, rfl, fun _ => rfl⟩, ⟨_, rfl, fun _ => rfl⟩, ⟨_, rfl, fun _ => rfl⟩, ⟨_, rfl, fun _ => rfl⟩, ⟨_, rfl, fun _ => rfl⟩, ⟨_, rfl, fun _ => rfl⟩, ⟨_, rfl, fun _ => rfl⟩, ⟨_, rfl, fun _ => rfl⟩, ⟨_, rfl, fun _ => rfl⟩, trivial⟩ ⟨rfl, rfl, rfl, rfl, rfl, rfl, rfl, rfl, rfl, rfl, trivial⟩ rfl rfl rfl rfl rfl rfl rfl) zd188_28 zxt125 rfl (by decide) (by decide) rfl ?_
    refine zv_con hB zd188_31 rfl ?_
    refine zv_ist hB zd188_32 rfl rfl rfl ?_
    obtain ⟨q13, hq13, h⟩ := zi_bind h
    refine l0 _ _ _ _ _ _ _ _ _ _ _ _ _ _ _ _ _ _ _ _ _ _ _ _ _ _ _ _ _ _ _ _ _ _ _ q13 hq13 ?_
    rcases q13 with e14 | w15
    · replace h := zi_sl h
      show good 116 [.inr 1000, .inr 1000, .inr 1000, .inr 1000] [] [.inr 3, .inr 2, .inr 3, .inl r3.1, .inl r3.2.1, .inl r3.2.2.1, .inl f6, .inl f7, .inl r3.2.2.2.1, .inl f9, .inl f10, .inl f11, .inl f12, .inl f13, .inl r3.2.2.2.2.1, .inl f15, .inl e14.1, .inl f17, .inl f18, .inl f19, .inl r4.1, .inl r4.2.1, .inl e14.2.1, .inl r4.2.2.2.1, .inl r4.2.2.2.2.1, .inl r4.2.2.2.2.2.1, .inl f26, .inl r4.2.2.2.2.2.2.1, .inr 1000, .inr 1000, .inl e14.2.2.1, .inl e14.2.2.2.1, .inl e14.2.2.2.2.1, .inl e14.2.2.2.2.2.1, .inl e14.2.2.2.2.2.2.1] [r3.2.2.2.2.2.2.1, e14.2.2.2.2.2.2.2.1, g2, g3, g4, g5, g6, g7, g8, e14.2.2.2.2.2.2.2.2.1, g10, r3.2.2.2.2.2.2.2.2.2.1, r3.2.2.2.2.2.2.2.2.2.2, e14.2.2.2.2.2.2.2.2.2.1, e14.2.2.2.2.2.2.2.2.2.2.1, r4.2.2.2.2.2.2.2.2.2.1, g16, r4.2.2.2.2.2.2.2.2.2.2.1, g18, r4.2.2.2.2.2.2.2.2.2.2.2, e14.2.2.2.2.2.2.2.2.2.2.2.1, e14.2.2.2.2.2.2.2.2.2.2.2.2.1, e14.2.2.2.2.2.2.2.2.2.2.2.2.2]
      refine zv_con hB zd188_116 rfl ?_
      have hw := Option.some.inj h
      refine zv_wk hB (L' := [.inr 1000, .inr 1000, .inr 1000, .inr 1000]) (F' := [.inr 3, .inr 1000, .inr 1000, .inl r3.1, .inl r3.2.1, .inl r3.2.2.1, .inl f6, .inl f7, .inl r3.2.2.2.1, .inl f9, .inl f10, .inl f11, .inl f12, .inl f13, .inl r3.2.2.2.2.1, .inl f15, .inl e14.1, .inl f17, .inl f18, .inl f19, .inl r4.1, .inl r4.2.1, .inl e14.2.1, .inl r4.2.2.2.1, .inl r4.2.2.2.2.1, .inl r4.2.2.2.2.2.1, .inl f26, .inl r4.2.2.2.2.2.2.1, .inr 1000, .inr 1000, .inl e14.2.2.1, .inl e14.2.2.2.1, .inl e14.2.2.2.2.1, .inl e14.2.2.2.2.2.1, .inl e14.2.2.2.2.2.2.1]) ⟨fun _ => rfl, fun _ => rfl, fun _ => rfl, fun _ => rfl, trivial⟩ ⟨fun _ => rfl, fun (h : zv_is (.inr 1000)) => (Nat.lt_irrefl 1000 h).elim, fun (h : zv_is (.inr 1000)) => (Nat.lt_irrefl 1000 h).elim, fun _ => rfl, fun _ => rfl, fun _ => rfl, fun _ => rfl, fun _ => rfl, fun _ => rfl, fun _ => rfl, fun _ => rfl, fun _ => rfl, fun _ => rfl, fun _ => rfl, fun _ => rfl, fun _ => rfl, fun _ => rfl, fun _ => rfl, fun _ => rfl, fun _ => rfl, fun _ => rfl, fun _ => rfl, fun _ => rfl, fun _ => rfl, fun _ => rfl, fun _ => rfl, fun _ => rfl, fun _ => rfl, fun (h : zv_is (.inr 1000)) => (Nat.lt_irrefl 1000 h).elim, fun (h : zv_is (.inr 1000)) => (Nat.lt_irrefl 1000 h).elim, fun _ => rfl, fun _ => rfl, fun _ => rfl, fun _ => rfl, fun _ => rfl, trivial⟩ ?_
      subst hw
      exact hret _ _ _ _ _ zd188_118 (by trivial) ⟨rfl, rfl, rfl⟩
    · exact Option.some.inj h
  · rw [if_pos hc2] at h
    refine zv_con hB zd188_8 rfl ?_
    have hw := Option.some.inj h
    subst hw
    exact hret _ _ _ _ _ zd188_9 (by trivial) ⟨rfl, rfl, rfl⟩
end
section
/-! Methods as functions, and that they do what these do. -/
/-! X_seed (I)Z -/
-- names: 0 StarTales('arg', 0), 1 Sky(0, 0, 0)
-- fields: f0 = 1.chance_; arrays: ; out: [('ret', None), ('f', 0)]
abbrev zy_X_seed : zNL := (2, [(0, 0), (1, 1)], [(1, 1, 11, 0)], [(0, 0, 0, 1)], [])
theorem zyw_X_seed : zv_wf zy_X_seed = true := by decide +kernel
theorem zye_X_seed : zv_ek2 zy_X_seed = true := by decide +kernel
def zf_X_seed (x1 : Int) (f0 : Int) : Option (Int × Int) := (zf_X_isWithin x1 0 65535).bind fun r1 => (if r1 = 0 then (some (0, f0)) else (some (1, x1)))
theorem zd190_0 : decode zxm190.2.1 0 = .ok (.iload_n 1, 1) := by decide +kernel
theorem zd190_1 : decode zxm190.2.1 1 = .ok (.iconst 0, 1) := by decide +kernel
theorem zd190_2 : decode zxm190.2.1 2 = .ok (.ldc_w 410, 3) := by decide +kernel
theorem zd190_5 : decode zxm190.2.1 5 = .ok (.invokestatic 126, 3) := by decide +kernel
theorem zd190_8 : decode zxm190.2.1 8 = .ok (.ifCond .ne 5, 3) := by decide +kernel
theorem zd190_11 : decode zxm190.2.1 11 = .ok (.iconst 0, 1) := by decide +kernel
theorem zd190_12 : decode zxm190.2.1 12 = .ok (.ireturn, 1) := by decide +kernel
theorem zd190_13 : decode zxm190.2.1 13 = .ok (.aload_n 0, 1) := by decide +kernel
theorem zd190_14 : decode zxm190.2.1 14 = .ok (.getfield 10, 3) := by decide +kernel
theorem zd190_17 : decode zxm190.2.1 17 = .ok (.iload_n 1, 1) := by decide +kernel
theorem zd190_18 : decode zxm190.2.1 18 = .ok (.putfield 411, 3) := by decide +kernel
theorem zd190_21 : decode zxm190.2.1 21 = .ok (.iconst 1, 1) := by decide +kernel
theorem zd190_22 : decode zxm190.2.1 22 = .ok (.ireturn, 1) := by decide +kernel
theorem zt_X_seed {x1 : Int} {f0 : Int} {o : Int × Int} (h : zf_X_seed x1 f0 = some o) : zv_Fn z_TB z_cl z_KX zy_X_seed zxm190 (1, 60) [.inr 0, .inl x1] [.inl f0] [] (some o.1) [.inl o.2] [] := zv_meth (K := (z_KF0, z_KC0, z_KL0, z_KT0, [], [], [], none)) (FT := z_FT) (MT := z_MT) (n := 2) zxp190 (z_ks0 _ (fun _ h => List.mem_cons_of_mem _ h) _ _ _ _ (fun j r h _ => by cases h)) (fun _ _ => zs_KX_p) zyw_X_seed (fun va F G h => by obtain ⟨rfl, _⟩ := h; rfl) (fun va F G h => by obtain ⟨rfl, _⟩ := h; rfl) rfl fun good va F G hB hret hvret hP => by
  obtain ⟨rfl, rfl, rfl⟩ := hP
  unfold zf_X_seed at h
  refine zv_ild hB zd190_0 rfl rfl ?_
  refine zv_con hB zd190_1 rfl ?_
  refine zv_con (n := 65535) hB zd190_2 (by decide +kernel) ?_
  obtain ⟨r1, hr1, h⟩ := zi_bind h
  refine zv_cs hB (zv_emq (va2 := [.inl x1, .inl 0, .inl 65535]) (F := [.inl f0]) (F' := [.inl f0]) (G := []) (G' := []) (ρ := []) (φ := []) (ψ := []) [none] [] zyw_X_isWithin zyw_X_seed zye_X_seed (by decide +kernel) (zt_X_isWithin hr1) trivial trivial rfl rfl rfl rfl rfl rfl rfl) zd190_5 zxt15 rfl (by decide) (by decide) rfl ?_
  refine zv_zne hB zd190_8 rfl (fun hc2 => ?_) (fun hc2 => ?_)
  · rw [if_neg hc2] at h
    refine zv_ald hB zd190_13 rfl rfl rfl ?_
    refine zv_getr hB zd190_14 rfl ?_
    refine zv_ild hB zd190_17 rfl rfl ?_
    refine zv_putf hB zd190_18 rfl rfl (fun h => by cases h) rfl ?_
    refine zv_con hB zd190_21 rfl ?_
    have hw := Option.some.inj h
    subst hw
    exact hret _ _ _ _ _ zd190_22 (by constructor <;> decide) ⟨rfl, rfl, rfl⟩
  · rw [if_pos hc2] at h
    refine zv_con hB zd190_11 rfl ?_
    have hw := Option.some.inj h
    subst hw
    exact hret _ _ _ _ _ zd190_12 (by constructor <;> decide) ⟨rfl, rfl, rfl⟩
/-! Sea_copyFrom (LStarTales$Sea;)V -/
-- names: 0 Sea('arg', 0), 1 Sea('arg', 1), 2 (0, 12)(1, 2, 0), 3 (0, 12)(0, 2, 0), 4 (0, 6)(1, 2, 2), 5 (0, 6)(0, 2, 2)
-- fields: f0 = 1.shipsTold_, f1 = 0.shipsTold_; arrays: g0 = 2, g1 = 3, g2 = 4, g3 = 5; out: [('f', 1), ('g', 1), ('g', 3)]
abbrev zy_Sea_copyFrom : zNL := (6, [(0, 2), (1, 2)], [(1, 2, 1, 0), (0, 2, 1, 1)], [(1, 2, 0, 2), (0, 2, 0, 3), (1, 2, 2, 4), (0, 2, 2, 5)], [(2, 0, 12, 0), (3, 0, 12, 1), (4, 0, 6, 2), (5, 0, 6, 3)])
theorem zyw_Sea_copyFrom : zv_wf zy_Sea_copyFrom = true := by decide +kernel
theorem zye_Sea_copyFrom : zv_ek2 zy_Sea_copyFrom = true := by decide +kernel
def zf_Sea_copyFrom (f0 : Int) (f1 : Int) (g0 : (Int → Int)) (g1 : (Int → Int)) (g2 : (Int → Int)) (g3 : (Int → Int)) : Option (Int × (Int → Int) × (Int → Int)) := some (f0, (zv_cpy g0 g1 12), (zv_cpy g2 g3 6))
theorem zd192_0 : decode zxm192.2.1 0 = .ok (.aload_n 1, 1) := by decide +kernel
theorem zd192_1 : decode zxm192.2.1 1 = .ok (.getfield 9, 3) := by decide +kernel
theorem zd192_4 : decode zxm192.2.1 4 = .ok (.iconst 0, 1) := by decide +kernel
theorem zd192_5 : decode zxm192.2.1 5 = .ok (.aload_n 0, 1) := by decide +kernel
theorem zd192_6 : decode zxm192.2.1 6 = .ok (.getfield 9, 3) := by decide +kernel
theorem zd192_9 : decode zxm192.2.1 9 = .ok (.iconst 0, 1) := by decide +kernel
theorem zd192_10 : decode zxm192.2.1 10 = .ok (.bipush 12, 2) := by decide +kernel
theorem zd192_12 : decode zxm192.2.1 12 = .ok (.invokestatic 49, 3) := by decide +kernel
theorem zd192_15 : decode zxm192.2.1 15 = .ok (.aload_n 0, 1) := by decide +kernel
theorem zd192_16 : decode zxm192.2.1 16 = .ok (.aload_n 1, 1) := by decide +kernel
theorem zd192_17 : decode zxm192.2.1 17 = .ok (.getfield 15, 3) := by decide +kernel
theorem zd192_20 : decode zxm192.2.1 20 = .ok (.putfield 15, 3) := by decide +kernel
theorem zd192_23 : decode zxm192.2.1 23 = .ok (.aload_n 1, 1) := by decide +kernel
theorem zd192_24 : decode zxm192.2.1 24 = .ok (.getfield 19, 3) := by decide +kernel
theorem zd192_27 : decode zxm192.2.1 27 = .ok (.iconst 0, 1) := by decide +kernel
theorem zd192_28 : decode zxm192.2.1 28 = .ok (.aload_n 0, 1) := by decide +kernel
theorem zd192_29 : decode zxm192.2.1 29 = .ok (.getfield 19, 3) := by decide +kernel
theorem zd192_32 : decode zxm192.2.1 32 = .ok (.iconst 0, 1) := by decide +kernel
theorem zd192_33 : decode zxm192.2.1 33 = .ok (.bipush 6, 2) := by decide +kernel
theorem zd192_35 : decode zxm192.2.1 35 = .ok (.invokestatic 49, 3) := by decide +kernel
theorem zd192_38 : decode zxm192.2.1 38 = .ok (.return_, 1) := by decide +kernel
theorem zt_Sea_copyFrom {f0 : Int} {f1 : Int} {g0 : (Int → Int)} {g1 : (Int → Int)} {g2 : (Int → Int)} {g3 : (Int → Int)} {o : Int × (Int → Int) × (Int → Int)} (h : zf_Sea_copyFrom f0 f1 g0 g1 g2 g3 = some o) : zv_Fn z_TB z_cl z_KX zy_Sea_copyFrom zxm192 (1, 60) [.inr 0, .inr 1] [.inl f0, .inl f1] [g0, g1, g2, g3] none [.inl f0, .inl o.1] [g0, o.2.1, g2, o.2.2] := zv_meth (K := (z_KF7, z_KC7, z_KL7, z_KT7, [], [], [], none)) (FT := z_FT) (MT := z_MT) (n := 2) zxp192 (z_ks7 _ (fun _ h => List.mem_cons_of_mem _ h) _ _ _ _ (fun j r h _ => by cases h)) (fun _ _ => zs_KX_p) zyw_Sea_copyFrom (fun va F G h => by obtain ⟨rfl, _⟩ := h; rfl) (fun va F G h => by obtain ⟨rfl, _⟩ := h; rfl) rfl fun good va F G hB hret hvret hP => by
  obtain ⟨rfl, rfl, rfl⟩ := hP
  unfold zf_Sea_copyFrom at h
  refine zv_ald hB zd192_0 rfl rfl rfl ?_
  refine zv_getr hB zd192_1 rfl ?_
  refine zv_con hB zd192_4 rfl ?_
  refine zv_ald hB zd192_5 rfl rfl rfl ?_
  refine zv_getr hB zd192_6 rfl ?_
  refine zv_con hB zd192_9 rfl ?_
  refine zv_con hB zd192_10 rfl ?_
  refine zv_acp hB zd192_12 (List.mem_of_getElem? (i := 8) rfl) rfl rfl rfl rfl (by decide) (by decide) (by decide) ⟨by decide, by decide⟩ ?_
  refine zv_ald hB zd192_15 rfl rfl rfl ?_
  refine zv_ald hB zd192_16 rfl rfl rfl ?_
  refine zv_getf hB zd192_17 rfl rfl (fun _ _ => ?_)
  refine zv_putf hB zd192_20 rfl rfl (fun h => by cases h) rfl ?_
  refine zv_ald hB zd192_23 rfl rfl rfl ?_
  refine zv_getr hB zd192_24 rfl ?_
  refine zv_con hB zd192_27 rfl ?_
  refine zv_ald hB zd192_28 rfl rfl rfl ?_
  refine zv_getr hB zd192_29 rfl ?_
  refine zv_con hB zd192_32 rfl ?_
  refine zv_con hB zd192_33 rfl ?_
  refine zv_acp hB zd192_35 (List.mem_of_getElem? (i := 8) rfl) rfl rfl rfl rfl (by decide) (by decide) (by decide) ⟨by decide, by decide⟩ ?_
  have hw := Option.some.inj h
  subst hw
  exact hvret _ _ _ _ zd192_38 trivial ⟨rfl, rfl, rfl⟩
/-! X_keep ()I -/
-- names: 0 StarTales('arg', 0), 1 Sky(0, 0, 1), 2 Sky(0, 0, 0), 3 (0, 24)(2, 1, 1), 4 (0, 24)(1, 1, 1), 5 (0, 24)(2, 1, 2), 6 (0, 24)(1, 1, 2), 7 (0, 24)(2, 1, 3), 8 (0, 24)(1, 1, 3), 9 (0, 24)(2, 1, 4), 10 (0, 24)(1, 1, 4), 11 (0, 24)(2, 1, 5), 12 (0, 24)(1, 1, 5), 13 Sea(0, 0, 4), 14 Sea(0, 0, 3), 15 (0, 12)(14, 2, 0), 16 (0, 12)(13, 2, 0), 17 (0, 6)(14, 2, 2), 18 (0, 6)(13, 2, 2)
-- fields: f0 = 2.told_, f1 = 1.told_, f2 = 2.hour_, f3 = 1.hour_, f4 = 2.night_, f5 = 1.night_, f6 = 2.clouds_, f7 = 1.clouds_, f8 = 2.sightColumns_, f9 = 1.sightColumns_, f10 = 2.sightRows_, f11 = 1.sightRows_, f12 = 2.chance_, f13 = 1.chance_, f14 = 14.shipsTold_, f15 = 13.shipsTold_, f16 = 0.isKept_; arrays: g0 = 3, g1 = 4, g2 = 5, g3 = 6, g4 = 7, g5 = 8, g6 = 9, g7 = 10, g8 = 11, g9 = 12, g10 = 15, g11 = 16, g12 = 17, g13 = 18; out: [('ret', None), ('f', 1), ('f', 3), ('f', 5), ('f', 7), ('f', 9), ('f', 11), ('f', 13), ('f', 15), ('f', 16), ('g', 1), ('g', 3), ('g', 5), ('g', 7), ('g', 9), ('g', 11), ('g', 13)]
abbrev zy_X_keep : zNL := (19, [(0, 0), (1, 1), (2, 1), (13, 2), (14, 2)], [(2, 1, 0, 0), (1, 1, 0, 1), (2, 1, 6, 2), (1, 1, 6, 3), (2, 1, 7, 4), (1, 1, 7, 5), (2, 1, 8, 6), (1, 1, 8, 7), (2, 1, 9, 8), (1, 1, 9, 9), (2, 1, 10, 10), (1, 1, 10, 11), (2, 1, 11, 12), (1, 1, 11, 13), (14, 2, 1, 14), (13, 2, 1, 15), (0, 0, 5, 16)], [(0, 0, 1, 1), (0, 0, 0, 2), (2, 1, 1, 3), (1, 1, 1, 4), (2, 1, 2, 5), (1, 1, 2, 6), (2, 1, 3, 7), (1, 1, 3, 8), (2, 1, 4, 9), (1, 1, 4, 10), (2, 1, 5, 11), (1, 1, 5, 12), (0, 0, 4, 13), (0, 0, 3, 14), (14, 2, 0, 15), (13, 2, 0, 16), (14, 2, 2, 17), (13, 2, 2, 18)], [(3, 0, 24, 0), (4, 0, 24, 1), (5, 0, 24, 2), (6, 0, 24, 3), (7, 0, 24, 4), (8, 0, 24, 5), (9, 0, 24, 6), (10, 0, 24, 7), (11, 0, 24, 8), (12, 0, 24, 9), (15, 0, 12, 10), (16, 0, 12, 11), (17, 0, 6, 12), (18, 0, 6, 13)])
theorem zyw_X_keep : zv_wf zy_X_keep = true := by decide +kernel
theorem zye_X_keep : zv_ek2 zy_X_keep = true := by decide +kernel
def zf_X_keep (f0 : Int) (f1 : Int) (f2 : Int) (f3 : Int) (f4 : Int) (f5 : Int) (f6 : Int) (f7 : Int) (f8 : Int) (f9 : Int) (f10 : Int) (f11 : Int) (f12 : Int) (f13 : Int) (f14 : Int) (f15 : Int) (f16 : Int) (g0 : (Int → Int)) (g1 : (Int → Int)) (g2 : (Int → Int)) (g3 : (Int → Int)) (g4 : (Int → Int)) (g5 : (Int → Int)) (g6 : (Int → Int)) (g7 : (Int → Int)) (g8 : (Int → Int)) (g9 : (Int → Int)) (g10 : (Int → Int)) (g11 : (Int → Int)) (g12 : (Int → Int)) (g13 : (Int → Int)) : Option (Int × Int × Int × Int × Int × Int × Int × Int × Int × Int × (Int → Int) × (Int → Int) × (Int → Int) × (Int → Int) × (Int → Int) × (Int → Int) × (Int → Int)) := (zf_Sky_copyFrom f0 f1 f2 f3 f4 f5 f6 f7 f8 f9 f10 f11 f12 f13 g0 g1 g2 g3 g4 g5 g6 g7 g8 g9).bind fun r1 => ((zf_Sea_copyFrom f14 f15 g10 g11 g12 g13).bind fun r2 => ((zf_Integer_bitCount f0).bind fun r3 => (some (r3, r1.1, r1.2.1, r1.2.2.1, r1.2.2.2.1, r1.2.2.2.2.1, r1.2.2.2.2.2.1, r1.2.2.2.2.2.2.1, r2.1, 1, r1.2.2.2.2.2.2.2.1, r1.2.2.2.2.2.2.2.2.1, r1.2.2.2.2.2.2.2.2.2.1, r1.2.2.2.2.2.2.2.2.2.2.1, r1.2.2.2.2.2.2.2.2.2.2.2, r2.2.1, r2.2.2))))
theorem zd191_0 : decode zxm191.2.1 0 = .ok (.aload_n 0, 1) := by decide +kernel
theorem zd191_1 : decode zxm191.2.1 1 = .ok (.getfield 16, 3) := by decide +kernel
theorem zd191_4 : decode zxm191.2.1 4 = .ok (.aload_n 0, 1) := by decide +kernel
theorem zd191_5 : decode zxm191.2.1 5 = .ok (.getfield 10, 3) := by decide +kernel
theorem zd191_8 : decode zxm191.2.1 8 = .ok (.invokevirtual 273, 3) := by decide +kernel
theorem zd191_11 : decode zxm191.2.1 11 = .ok (.aload_n 0, 1) := by decide +kernel
theorem zd191_12 : decode zxm191.2.1 12 = .ok (.getfield 29, 3) := by decide +kernel
theorem zd191_15 : decode zxm191.2.1 15 = .ok (.aload_n 0, 1) := by decide +kernel
theorem zd191_16 : decode zxm191.2.1 16 = .ok (.getfield 25, 3) := by decide +kernel
theorem zd191_19 : decode zxm191.2.1 19 = .ok (.invokevirtual 414, 3) := by decide +kernel
theorem zd191_22 : decode zxm191.2.1 22 = .ok (.aload_n 0, 1) := by decide +kernel
theorem zd191_23 : decode zxm191.2.1 23 = .ok (.iconst 1, 1) := by decide +kernel
theorem zd191_24 : decode zxm191.2.1 24 = .ok (.putfield 32, 3) := by decide +kernel
theorem zd191_27 : decode zxm191.2.1 27 = .ok (.aload_n 0, 1) := by decide +kernel
theorem zd191_28 : decode zxm191.2.1 28 = .ok (.getfield 10, 3) := by decide +kernel
theorem zd191_31 : decode zxm191.2.1 31 = .ok (.getfield 134, 3) := by decide +kernel
theorem zd191_34 : decode zxm191.2.1 34 = .ok (.invokestatic 235, 3) := by decide +kernel
theorem zd191_37 : decode zxm191.2.1 37 = .ok (.ireturn, 1) := by decide +kernel
theorem zt_X_keep {f0 : Int} {f1 : Int} {f2 : Int} {f3 : Int} {f4 : Int} {f5 : Int} {f6 : Int} {f7 : Int} {f8 : Int} {f9 : Int} {f10 : Int} {f11 : Int} {f12 : Int} {f13 : Int} {f14 : Int} {f15 : Int} {f16 : Int} {g0 : (Int → Int)} {g1 : (Int → Int)} {g2 : (Int → Int)} {g3 : (Int → Int)} {g4 : (Int → Int)} {g5 : (Int → Int)} {g6 : (Int → Int)} {g7 : (Int → Int)} {g8 : (Int → Int)} {g9 : (Int → Int)} {g10 : (Int → Int)} {g11 : (Int → Int)} {g12 : (Int → Int)} {g13 : (Int → Int)} {o : Int × Int × Int × Int × Int × Int × Int × Int × Int × Int × (Int → Int) × (Int → Int) × (Int → Int) × (Int → Int) × (Int → Int) × (Int → Int) × (Int → Int)} (h : zf_X_keep f0 f1 f2 f3 f4 f5 f6 f7 f8 f9 f10 f11 f12 f13 f14 f15 f16 g0 g1 g2 g3 g4 g5 g6 g7 g8 g9 g10 g11 g12 g13 = some o) : zv_Fn z_TB z_cl z_KX zy_X_keep zxm191 (2, 120) [.inr 0] [.inl f0, .inl f1, .inl f2, .inl f3, .inl f4, .inl f5, .inl f6, .inl f7, .inl f8, .inl f9, .inl f10, .inl f11, .inl f12, .inl f13, .inl f14, .inl f15, .inl f16] [g0, g1, g2, g3, g4, g5, g6, g7, g8, g9, g10, g11, g12, g13] (some o.1) [.inl f0, .inl o.2.1, .inl f2, .inl o.2.2.1, .inl f4, .inl o.2.2.2.1, .inl f6, .inl o.2.2.2.2.1, .inl f8, .inl o.2.2.2.2.2.1, .inl f10, .inl o.2.2.2.2.2.2.1, .inl f12, .inl o.2.2.2.2.2.2.2.1, .inl f14, .inl o.2.2.2.2.2.2.2.2.1, .inl o.2.2.2.2.2.2.2.2.2.1] [g0, o.2.2.2.2.2.2.2.2.2.2.1, g2, o.2.2.2.2.2.2.2.2.2.2.2.1, g4, o.2.2.2.2.2.2.2.2.2.2.2.2.1, g6, o.2.2.2.2.2.2.2.2.2.2.2.2.2.1, g8, o.2.2.2.2.2.2.2.2.2.2.2.2.2.2.1, g10, o.2.2.2.2.2.2.2.2.2.2.2.2.2.2.2.1, g12, o.2.2.2.2.2.2.2.2.2.2.2.2.2.2.2.2] := zv_meth (K := (z_KF0, z_KC0, z_KL0, z_KT0, [], [], [], none)) (FT := z_FT) (MT := z_MT) (n := 1) zxp191 (z_ks0 _ (fun _ h => List.mem_cons_of_mem _ h) _ _ _ _ (fun j r h _ => by cases h)) (fun _ _ => zs_KX_p) zyw_X_keep (fun va F G h => by obtain ⟨rfl, _⟩ := h; rfl) (fun va F G h => by obtain ⟨rfl, _⟩ := h; rfl) rfl fun good va F G hB hret hvret hP => by
  obtain ⟨rfl, rfl, rfl⟩ := hP
  unfold zf_X_keep at h
  refine zv_ald hB zd191_0 rfl rfl rfl ?_
  refine zv_getr hB zd191_1 rfl ?_
  refine zv_ald hB zd191_4 rfl rfl rfl ?_
  refine zv_getr hB zd191_5 rfl ?_
  obtain ⟨r1, hr1, h⟩ := zi_bind h
  refine zv_cv hB (zv_emq (va2 := [.inr 1, .inr 2]) (F := [.inl f0, .inl f1, .inl f2, .inl f3, .inl f4, .inl f5, .inl f6, .inl f7, .inl f8, .inl f9, .inl f10, .inl f11, .inl f12, .inl f13, .inl f14, .inl f15, .inl f16]) (F' := [.inl f0, .inl r1.1, .inl f2, .inl r1.2.1, .inl f4, .inl r1.2.2.1, .inl f6, .inl r1.2.2.2.1, .inl f8, .inl r1.2.2.2.2.1, .inl f10, .inl r1.2.2.2.2.2.1, .inl f12, .inl r1.2.2.2.2.2.2.1, .inl f14, .inl f15, .inl f16]) (G := [g0, g1, g2, g3, g4, g5, g6, g7, g8, g9, g10, g11, g12, g13]) (G' := [g0, r1.2.2.2.2.2.2.2.1, g2, r1.2.2.2.2.2.2.2.2.1, g4, r1.2.2.2.2.2.2.2.2.2.1, g6, r1.2.2.2.2.2.2.2.2.2.2.1, g8, r1.2.2.2.2.2.2.2.2.2.2.2, g10, g11, g12, g13]) (ρ := [1, 2, 3, 4, 5, 6, 7, 8, 9, 10, 11, 12]) (φ := [0, 1, 2, 3, 4, 5, 6, 7, 8, 9, 10, 11, 12, 13]) (ψ := [0, 1, 2, 3, 4, 5, 6, 7, 8, 9]) [some 0, some 1, some 2, some 3, some 4, some 5, some 6, some 7, some 8, some 9, some 10, some 11, some 12, some 13, none, none, none] [some 0, some 1, some 2, some 3, some 4, some 5, some 6, some 7, some 8, some 9, none, none, none, none] zyw_Sky_copyFrom zyw_X_keep zye_X_keep (by decide +kernel) (zt_Sky_copyFrom hr1) ⟨⟨_, rfl, fun _ => rfl⟩, ⟨_, rfl, fun _ => rfl⟩, ⟨_, rfl, fun _ => rfl⟩, ⟨_, rfl, fun _ => rfl⟩, ⟨_, rfl, fun _ => rfl⟩, ⟨_, rfl, fun _ => rfl⟩, ⟨_, rfl, fun _ => rfl⟩, ⟨_, rfl, fun _ => rfl⟩, ⟨_, rfl, fun _ => rfl⟩, ⟨_, rfl, fun _ => rfl⟩, ⟨_, rfl, fun _ => rfl⟩, ⟨_, rfl, fun _ => rfl⟩, ⟨_, rfl, fun _ => rfl⟩, ⟨_, rfl, fun _ => rfl⟩, trivial⟩ ⟨rfl, rfl, rfl, rfl, rfl, rfl, rfl, rfl, rfl, rfl, trivial⟩ rfl rfl rfl rfl rfl rfl rfl) zd191_8 zxt125 rfl (by decide) (by decide) rfl ?_
  refine zv_ald hB zd191_11 rfl rfl rfl ?_
  refine zv_getr hB zd191_12 rfl ?_
  refine zv_ald hB zd191_15 rfl rfl rfl ?_
  refine zv_getr hB zd191_16 rfl ?_
  obtain ⟨r2, hr2, h⟩ := zi_bind h
  refine zv_cv hB (zv_emq (va2 := [.inr 13, .inr 14]) (F := [.inl f0, .inl r1.1, .inl f2, .inl r1.2.1, .inl f4, .inl r1.2.2.1, .inl f6, .inl r1.2.2.2.1, .inl f8, .inl r1.2.2.2.2.1, .inl f10, .inl r1.2.2.2.2.2.1, .inl f12, .inl r1.2.2.2.2.2.2.1, .inl f14, .inl f15, .inl f16]) (F' := [.inl f0, .inl r1.1, .inl f2, .inl r1.2.1, .inl f4, .inl r1.2.2.1, .inl f6, .inl r1.2.2.2.1, .inl f8, .inl r1.2.2.2.2.1, .inl f10, .inl r1.2.2.2.2.2.1, .inl f12, .inl r1.2.2.2.2.2.2.1, .inl f14, .inl r2.1, .inl f16]) (G := [g0, r1.2.2.2.2.2.2.2.1, g2, r1.2.2.2.2.2.2.2.2.1, g4, r1.2.2.2.2.2.2.2.2.2.1, g6, r1.2.2.2.2.2.2.2.2.2.2.1, g8, r1.2.2.2.2.2.2.2.2.2.2.2, g10, g11, g12, g13]) (G' := [g0, r1.2.2.2.2.2.2.2.1, g2, r1.2.2.2.2.2.2.2.2.1, g4, r1.2.2.2.2.2.2.2.2.2.1, g6, r1.2.2.2.2.2.2.2.2.2.2.1, g8, r1.2.2.2.2.2.2.2.2.2.2.2, g10, r2.2.1, g12, r2.2.2]) (ρ := [13, 14, 15, 16, 17, 18]) (φ := [14, 15]) (ψ := [10, 11, 12, 13]) [none, none, none, none, none, none, none, none, none, none, none, none, none, none, some 0, some 1, none] [none, none, none, none, none, none, none, none, none, none, some 0, some 1, some 2, some 3] zyw_Sea_copyFrom zyw_X_keep zye_X_keep (by decide +kernel) (zt_Sea_copyFrom hr2) ⟨⟨_, rfl, fun _ => rfl⟩, ⟨_, rfl, fun _ => rfl⟩, trivial⟩ ⟨rfl, rfl, rfl, rfl, trivial⟩ rfl rfl rfl rfl rfl rfl rfl) zd191_19 zxt192 rfl (by decide) (by decide) rfl ?_
  refine zv_ald hB zd191_22 rfl rfl rfl ?_
  refine zv_con hB zd191_23 rfl ?_
  refine zv_putf hB zd191_24 rfl rfl (fun _ => by decide) rfl ?_
  refine zv_ald hB zd191_27 rfl rfl rfl ?_
  refine zv_getr hB zd191_28 rfl ?_
  refine zv_getf hB zd191_31 rfl rfl (fun _ _ => ?_)
  obtain ⟨r3, hr3, h⟩ := zi_bind h
  refine zv_cs hB (zv_emq (va2 := [.inl f0]) (F := [.inl f0, .inl r1.1, .inl f2, .inl r1.2.1, .inl f4, .inl r1.2.2.1, .inl f6, .inl r1.2.2.2.1, .inl f8, .inl r1.2.2.2.2.1, .inl f10, .inl r1.2.2.2.2.2.1, .inl f12, .inl r1.2.2.2.2.2.2.1, .inl f14, .inl r2.1, .inl 1]) (F' := [.inl f0, .inl r1.1, .inl f2, .inl r1.2.1, .inl f4, .inl r1.2.2.1, .inl f6, .inl r1.2.2.2.1, .inl f8, .inl r1.2.2.2.2.1, .inl f10, .inl r1.2.2.2.2.2.1, .inl f12, .inl r1.2.2.2.2.2.2.1, .inl f14, .inl r2.1, .inl 1]) (G := [g0, r1.2.2.2.2.2.2.2.1, g2, r1.2.2.2.2.2.2.2.2.1, g4, r1.2.2.2.2.2.2.2.2.2.1, g6, r1.2.2.2.2.2.2.2.2.2.2.1, g8, r1.2.2.2.2.2.2.2.2.2.2.2, g10, r2.2.1, g12, r2.2.2]) (G' := [g0, r1.2.2.2.2.2.2.2.1, g2, r1.2.2.2.2.2.2.2.2.1, g4, r1.2.2.2.2.2.2.2.2.2.1, g6, r1.2.2.2.2.2.2.2.2.2.2.1, g8, r1.2.2.2.2.2.2.2.2.2.2.2, g10, r2.2.1, g12, r2.2.2]) (ρ := []) (φ := []) (ψ := []) [none, none, none, none, none, none, none, none, none, none, none, none, none, none, none, none, none] [none, none, none, none, none, none, none, none, none, none, none, none, none, none] zyw_Integer_bitCount zyw_X_keep zye_X_keep (by decide +kernel) (zt_Integer_bitCount hr3) trivial trivial rfl rfl rfl rfl rfl rfl rfl) zd191_34 zxt102 rfl (by decide) (by decide) rfl ?_
  have hw := Option.some.inj h
  subst hw
  exact hret _ _ _ _ _ zd191_37 (by trivial) ⟨rfl, rfl, rfl⟩
/-! X_undo ()Z -/
-- names: 0 StarTales('arg', 0), 1 Sky(0, 0, 0), 2 Sky(0, 0, 1), 3 (0, 24)(2, 1, 1), 4 (0, 24)(1, 1, 1), 5 (0, 24)(2, 1, 2), 6 (0, 24)(1, 1, 2), 7 (0, 24)(2, 1, 3), 8 (0, 24)(1, 1, 3), 9 (0, 24)(2, 1, 4), 10 (0, 24)(1, 1, 4), 11 (0, 24)(2, 1, 5), 12 (0, 24)(1, 1, 5), 13 Sea(0, 0, 3), 14 Sea(0, 0, 4), 15 (0, 12)(14, 2, 0), 16 (0, 12)(13, 2, 0), 17 (0, 6)(14, 2, 2), 18 (0, 6)(13, 2, 2)
-- fields: f0 = 0.isKept_, f1 = 2.told_, f2 = 1.told_, f3 = 2.hour_, f4 = 1.hour_, f5 = 2.night_, f6 = 1.night_, f7 = 2.clouds_, f8 = 1.clouds_, f9 = 2.sightColumns_, f10 = 1.sightColumns_, f11 = 2.sightRows_, f12 = 1.sightRows_, f13 = 2.chance_, f14 = 1.chance_, f15 = 14.shipsTold_, f16 = 13.shipsTold_; arrays: g0 = 3, g1 = 4, g2 = 5, g3 = 6, g4 = 7, g5 = 8, g6 = 9, g7 = 10, g8 = 11, g9 = 12, g10 = 15, g11 = 16, g12 = 17, g13 = 18; out: [('ret', None), ('f', 2), ('f', 4), ('f', 6), ('f', 8), ('f', 10), ('f', 12), ('f', 14), ('f', 16), ('g', 1), ('g', 3), ('g', 5), ('g', 7), ('g', 9), ('g', 11), ('g', 13)]
abbrev zy_X_undo : zNL := (19, [(0, 0), (1, 1), (2, 1), (13, 2), (14, 2)], [(0, 0, 5, 0), (2, 1, 0, 1), (1, 1, 0, 2), (2, 1, 6, 3), (1, 1, 6, 4), (2, 1, 7, 5), (1, 1, 7, 6), (2, 1, 8, 7), (1, 1, 8, 8), (2, 1, 9, 9), (1, 1, 9, 10), (2, 1, 10, 11), (1, 1, 10, 12), (2, 1, 11, 13), (1, 1, 11, 14), (14, 2, 1, 15), (13, 2, 1, 16)], [(0, 0, 0, 1), (0, 0, 1, 2), (2, 1, 1, 3), (1, 1, 1, 4), (2, 1, 2, 5), (1, 1, 2, 6), (2, 1, 3, 7), (1, 1, 3, 8), (2, 1, 4, 9), (1, 1, 4, 10), (2, 1, 5, 11), (1, 1, 5, 12), (0, 0, 3, 13), (0, 0, 4, 14), (14, 2, 0, 15), (13, 2, 0, 16), (14, 2, 2, 17), (13, 2, 2, 18)], [(3, 0, 24, 0), (4, 0, 24, 1), (5, 0, 24, 2), (6, 0, 24, 3), (7, 0, 24, 4), (8, 0, 24, 5), (9, 0, 24, 6), (10, 0, 24, 7), (11, 0, 24, 8), (12, 0, 24, 9), (15, 0, 12, 10), (16, 0, 12, 11), (17, 0, 6, 12), (18, 0, 6, 13)])
theorem zyw_X_undo : zv_wf zy_X_undo = true := by decide +kernel
theorem zye_X_undo : zv_ek2 zy_X_undo = true := by decide +kernel
def zf_X_undo (f0 : Int) (f1 : Int) (f2 : Int) (f3 : Int) (f4 : Int) (f5 : Int) (f6 : Int) (f7 : Int) (f8 : Int) (f9 : Int) (f10 : Int) (f11 : Int) (f12 : Int) (f13 : Int) (f14 : Int) (f15 : Int) (f16 : Int) (g0 : (Int → Int)) (g1 : (Int → Int)) (g2 : (Int → Int)) (g3 : (Int → Int)) (g4 : (Int → Int)) (g5 : (Int → Int)) (g6 : (Int → Int)) (g7 : (Int → Int)) (g8 : (Int → Int)) (g9 : (Int → Int)) (g10 : (Int → Int)) (g11 : (Int → Int)) (g12 : (Int → Int)) (g13 : (Int → Int)) : Option (Int × Int × Int × Int × Int × Int × Int × Int × Int × (Int → Int) × (Int → Int) × (Int → Int) × (Int → Int) × (Int → Int) × (Int → Int) × (Int → Int)) := if f0 = 0 then (some (0, f2, f4, f6, f8, f10, f12, f14, f16, g1, g3, g5, g7, g9, g11, g13)) else ((zf_Sky_copyFrom f1 f2 f3 f4 f5 f6 f7 f8 f9 f10 f11 f12 f13 f14 g0 g1 g2 g3 g4 g5 g6 g7 g8 g9).bind fun r2 => ((zf_Sea_copyFrom f15 f16 g10 g11 g12 g13).bind fun r3 => (some (1, r2.1, r2.2.1, r2.2.2.1, r2.2.2.2.1, r2.2.2.2.2.1, r2.2.2.2.2.2.1, r2.2.2.2.2.2.2.1, r3.1, r2.2.2.2.2.2.2.2.1, r2.2.2.2.2.2.2.2.2.1, r2.2.2.2.2.2.2.2.2.2.1, r2.2.2.2.2.2.2.2.2.2.2.1, r2.2.2.2.2.2.2.2.2.2.2.2, r3.2.1, r3.2.2))))
theorem zd193_0 : decode zxm193.2.1 0 = .ok (.aload_n 0, 1) := by decide +kernel
theorem zd193_1 : decode zxm193.2.1 1 = .ok (.getfield 32, 3) := by decide +kernel
theorem zd193_4 : decode zxm193.2.1 4 = .ok (.ifCond .ne 5, 3) := by decide +kernel
theorem zd193_7 : decode zxm193.2.1 7 = .ok (.iconst 0, 1) := by decide +kernel
theorem zd193_8 : decode zxm193.2.1 8 = .ok (.ireturn, 1) := by decide +kernel
theorem zd193_9 : decode zxm193.2.1 9 = .ok (.aload_n 0, 1) := by decide +kernel
theorem zd193_10 : decode zxm193.2.1 10 = .ok (.getfield 10, 3) := by decide +kernel
theorem zd193_13 : decode zxm193.2.1 13 = .ok (.aload_n 0, 1) := by decide +kernel
theorem zd193_14 : decode zxm193.2.1 14 = .ok (.getfield 16, 3) := by decide +kernel
theorem zd193_17 : decode zxm193.2.1 17 = .ok (.invokevirtual 273, 3) := by decide +kernel
theorem zd193_20 : decode zxm193.2.1 20 = .ok (.aload_n 0, 1) := by decide +kernel
theorem zd193_21 : decode zxm193.2.1 21 = .ok (.getfield 25, 3) := by decide +kernel
theorem zd193_24 : decode zxm193.2.1 24 = .ok (.aload_n 0, 1) := by decide +kernel
theorem zd193_25 : decode zxm193.2.1 25 = .ok (.getfield 29, 3) := by decide +kernel
theorem zd193_28 : decode zxm193.2.1 28 = .ok (.invokevirtual 414, 3) := by decide +kernel
theorem zd193_31 : decode zxm193.2.1 31 = .ok (.iconst 1, 1) := by decide +kernel
theorem zd193_32 : decode zxm193.2.1 32 = .ok (.ireturn, 1) := by decide +kernel
theorem zt_X_undo {f0 : Int} {f1 : Int} {f2 : Int} {f3 : Int} {f4 : Int} {f5 : Int} {f6 : Int} {f7 : Int} {f8 : Int} {f9 : Int} {f10 : Int} {f11 : Int} {f12 : Int} {f13 : Int} {f14 : Int} {f15 : Int} {f16 : Int} {g0 : (Int → Int)} {g1 : (Int → Int)} {g2 : (Int → Int)} {g3 : (Int → Int)} {g4 : (Int → Int)} {g5 : (Int → Int)} {g6 : (Int → Int)} {g7 : (Int → Int)} {g8 : (Int → Int)} {g9 : (Int → Int)} {g10 : (Int → Int)} {g11 : (Int → Int)} {g12 : (Int → Int)} {g13 : (Int → Int)} {o : Int × Int × Int × Int × Int × Int × Int × Int × Int × (Int → Int) × (Int → Int) × (Int → Int) × (Int → Int) × (Int → Int) × (Int → Int) × (Int → Int)} (h : zf_X_undo f0 f1 f2 f3 f4 f5 f6 f7 f8 f9 f10 f11 f12 f13 f14 f15 f16 g0 g1 g2 g3 g4 g5 g6 g7 g8 g9 g10 g11 g12 g13 = some o) : zv_Fn z_TB z_cl z_KX zy_X_undo zxm193 (2, 120) [.inr 0] [.inl f0, .inl f1, .inl f2, .inl f3, .inl f4, .inl f5, .inl f6, .inl f7, .inl f8, .inl f9, .inl f10, .inl f11, .inl f12, .inl f13, .inl f14, .inl f15, .inl f16] [g0, g1, g2, g3, g4, g5, g6, g7, g8, g9, g10, g11, g12, g13] (some o.1) [.inl f0, .inl f1, .inl o.2.1, .inl f3, .inl o.2.2.1, .inl f5, .inl o.2.2.2.1, .inl f7, .inl o.2.2.2.2.1, .inl f9, .inl o.2.2.2.2.2.1, .inl f11, .inl o.2.2.2.2.2.2.1, .inl f13, .inl o.2.2.2.2.2.2.2.1, .inl f15, .inl o.2.2.2.2.2.2.2.2.1] [g0, o.2.2.2.2.2.2.2.2.2.1, g2, o.2.2.2.2.2.2.2.2.2.2.1, g4, o.2.2.2.2.2.2.2.2.2.2.2.1, g6, o.2.2.2.2.2.2.2.2.2.2.2.2.1, g8, o.2.2.2.2.2.2.2.2.2.2.2.2.2.1, g10, o.2.2.2.2.2.2.2.2.2.2.2.2.2.2.1, g12, o.2.2.2.2.2.2.2.2.2.2.2.2.2.2.2] := zv_meth (K := (z_KF0, z_KC0, z_KL0, z_KT0, [], [], [], none)) (FT := z_FT) (MT := z_MT) (n := 1) zxp193 (z_ks0 _ (fun _ h => List.mem_cons_of_mem _ h) _ _ _ _ (fun j r h _ => by cases h)) (fun _ _ => zs_KX_p) zyw_X_undo (fun va F G h => by obtain ⟨rfl, _⟩ := h; rfl) (fun va F G h => by obtain ⟨rfl, _⟩ := h; rfl) rfl fun good va F G hB hret hvret hP => by
  obtain ⟨rfl, rfl, rfl⟩ := hP
  unfold zf_X_undo at h
  refine zv_ald hB zd193_0 rfl rfl rfl ?_
  refine zv_getf hB zd193_1 rfl rfl (fun _ _ => ?_)
  refine zv_zne hB zd193_4 rfl (fun hc1 => ?_) (fun hc1 => ?_)
  · rw [if_neg hc1] at h
    refine zv_ald hB zd193_9 rfl rfl rfl ?_
    refine zv_getr hB zd193_10 rfl ?_
    refine zv_ald hB zd193_13 rfl rfl rfl ?_
    refine zv_getr hB zd193_14 rfl ?_
    obtain ⟨r2, hr2, h⟩ := zi_bind h
    refine zv_cv hB (zv_emq (va2 := [.inr 1, .inr 2]) (F := [.inl f0, .inl f1, .inl f2, .inl f3, .inl f4, .inl f5, .inl f6, .inl f7, .inl f8, .inl f9, .inl f10, .inl f11, .inl f12, .inl f13, .inl f14, .inl f15, .inl f16]) (F' := [.inl f0, .inl f1, .inl r2.1, .inl f3, .inl r2.2.1, .inl f5, .inl r2.2.2.1, .inl f7, .inl r2.2.2.2.1, .inl f9, .inl r2.2.2.2.2.1, .inl f11, .inl r2.2.2.2.2.2.1, .inl f13, .inl r2.2.2.2.2.2.2.1, .inl f15, .inl f16]) (G := [g0, g1, g2, g3, g4, g5, g6, g7, g8, g9, g10, g11, g12, g13]) (G' := [g0, r2.2.2.2.2.2.2.2.1, g2, r2.2.2.2.2.2.2.2.2.1, g4, r2.2.2.2.2.2.2.2.2.2.1, g6, r2.2.2.2.2.2.2.2.2.2.2.1, g8, r2.2.2.2.2.2.2.2.2.2.2.2, g10, g11, g12, g13]) (ρ := [1, 2, 3, 4, 5, 6, 7, 8, 9, 10, 11, 12]) (φ := [1, 2, 3, 4, 5, 6, 7, 8, 9, 10, 11, 12, 13, 14]) (ψ := [0, 1, 2, 3, 4, 5, 6, 7, 8, 9]) [none, some 0, some 1, some 2, some 3, some 4, some 5, some 6, some 7, some 8, some 9, some 10, some 11, some 12, some 13, none, none] [some 0, some 1, some 2, some 3, some 4, some 5, some 6, some 7, some 8, some 9, none, none, none, none] zyw_Sky_copyFrom zyw_X_undo zye_X_undo (by decide +kernel) (zt_Sky_copyFrom hr2) ⟨⟨_, rfl, fun _ => rfl⟩, ⟨_, rfl, fun _ => rfl⟩, ⟨_, rfl, fun _ => rfl⟩, ⟨_, rfl, fun _ => rfl⟩, ⟨_, rfl, fun _ => rfl⟩, ⟨_, rfl, fun _ => rfl⟩, ⟨_, rfl, fun _ => rfl⟩, ⟨_, rfl, fun _ => rfl⟩, ⟨_, rfl, fun _ => rfl⟩, ⟨_, rfl, fun _ => rfl⟩, ⟨_, rfl, fun _ => rfl⟩, ⟨_, rfl, fun _ => rfl⟩, ⟨_, rfl, fun _ => rfl⟩, ⟨_, rfl, fun _ => rfl⟩, trivial⟩ ⟨rfl, rfl, rfl, rfl, rfl, rfl, rfl, rfl, rfl, rfl, trivial⟩ rfl rfl rfl rfl rfl rfl rfl) zd193_17 zxt125 rfl (by decide) (by decide) rfl ?_
    refine zv_ald hB zd193_20 rfl rfl rfl ?_
    refine zv_getr hB zd193_21 rfl ?_
    refine zv_ald hB zd193_24 rfl rfl rfl ?_
    refine zv_getr hB zd193_25 rfl ?_
    obtain ⟨r3, hr3, h⟩ := zi_bind h
    refine zv_cv hB (zv_emq (va2 := [.inr 13, .inr 14]) (F := [.inl f0, .inl f1, .inl r2.1, .inl f3, .inl r2.2.1, .inl f5, .inl r2.2.2.1, .inl f7, .inl r2.2.2.2.1, .inl f9, .inl r2.2.2.2.2.1, .inl f11, .inl r2.2.2.2.2.2.1, .inl f13, .inl r2.2.2.2.2.2.2.1, .inl f15, .inl f16]) (F' := [.inl f0, .inl f1, .inl r2.1, .inl f3, .inl r2.2.1, .inl f5, .inl r2.2.2.1, .inl f7, .inl r2.2.2.2.1, .inl f9, .inl r2.2.2.2.2.1, .inl f11, .inl r2.2.2.2.2.2.1, .inl f13, .inl r2.2.2.2.2.2.2.1, .inl f15, .inl r3.1]) (G := [g0, r2.2.2.2.2.2.2.2.1, g2, r2.2.2.2.2.2.2.2.2.1, g4, r2.2.2.2.2.2.2.2.2.2.1, g6, r2.2.2.2.2.2.2.2.2.2.2.1, g8, r2.2.2.2.2.2.2.2.2.2.2.2, g10, g11, g12, g13]) (G' := [g0, r2.2.2.2.2.2.2.2.1, g2, r2.2.2.2.2.2.2.2.2.1, g4, r2.2.2.2.2.2.2.2.2.2.1, g6, r2.2.2.2.2.2.2.2.2.2.2.1, g8, r2.2.2.2.2.2.2.2.2.2.2.2, g10, r3.2.1, g12, r3.2.2]) (ρ := [13, 14, 15, 16, 17, 18]) (φ := [15, 16]) (ψ := [10, 11, 12, 13]) [none, none, none, none, none, none, none, none, none, none, none, none, none, none, none, some 0, some 1] [none, none, none, none, none, none, none, none, none, none, some 0, some 1, some 2, some 3] zyw_Sea_copyFrom zyw_X_undo zye_X_undo (by decide +kernel) (zt_Sea_copyFrom hr3) ⟨⟨_, rfl, fun _ => rfl⟩, ⟨_, rfl, fun _ => rfl⟩, trivial⟩ ⟨rfl, rfl, rfl, rfl, trivial⟩ rfl rfl rfl rfl rfl rfl rfl) zd193_28 zxt192 rfl (by decide) (by decide) rfl ?_
    refine zv_con hB zd193_31 rfl ?_
    have hw := Option.some.inj h
    subst hw
    exact hret _ _ _ _ _ zd193_32 (by constructor <;> decide) ⟨rfl, rfl, rfl⟩
  · rw [if_pos hc1] at h
    refine zv_con hB zd193_7 rfl ?_
    have hw := Option.some.inj h
    subst hw
    exact hret _ _ _ _ _ zd193_8 (by constructor <;> decide) ⟨rfl, rfl, rfl⟩
/-! Tape_numberAt (I)I -/
-- names: 0 Tape('arg', 0), 1 (0, 220)(0, 3, 0)
-- fields: ; arrays: g0 = 1; out: [('ret', None)]
abbrev zy_Tape_numberAt : zNL := (2, [(0, 3)], [], [(0, 3, 0, 1)], [(1, 0, 220, 0)])
theorem zyw_Tape_numberAt : zv_wf zy_Tape_numberAt = true := by decide +kernel
theorem zye_Tape_numberAt : zv_ek2 zy_Tape_numberAt = true := by decide +kernel
def zf_Tape_numberAt (x1 : Int) (g0 : (Int → Int)) : Option (Int) := (zf_Tape_byteAt (zi_w (4 * x1)) g0).bind fun r1 => ((zf_Tape_byteAt (zi_w ((zi_w (4 * x1)) + 1)) g0).bind fun r2 => ((zf_Tape_byteAt (zi_w ((zi_w (4 * x1)) + 2)) g0).bind fun r3 => ((zf_Tape_byteAt (zi_w ((zi_w (4 * x1)) + 3)) g0).bind fun r4 => (some (zi_or (zi_or (zi_or (zi_shl r1 24) (zi_shl r2 16)) (zi_shl r3 8)) r4)))))
theorem zd195_0 : decode zxm195.2.1 0 = .ok (.aload_n 0, 1) := by decide +kernel
theorem zd195_1 : decode zxm195.2.1 1 = .ok (.iconst 4, 1) := by decide +kernel
theorem zd195_2 : decode zxm195.2.1 2 = .ok (.iload_n 1, 1) := by decide +kernel
theorem zd195_3 : decode zxm195.2.1 3 = .ok (.imul, 1) := by decide +kernel
theorem zd195_4 : decode zxm195.2.1 4 = .ok (.invokevirtual 17, 3) := by decide +kernel
theorem zd195_7 : decode zxm195.2.1 7 = .ok (.bipush 24, 2) := by decide +kernel
theorem zd195_9 : decode zxm195.2.1 9 = .ok (.ishl, 1) := by decide +kernel
theorem zd195_10 : decode zxm195.2.1 10 = .ok (.aload_n 0, 1) := by decide +kernel
theorem zd195_11 : decode zxm195.2.1 11 = .ok (.iconst 4, 1) := by decide +kernel
theorem zd195_12 : decode zxm195.2.1 12 = .ok (.iload_n 1, 1) := by decide +kernel
theorem zd195_13 : decode zxm195.2.1 13 = .ok (.imul, 1) := by decide +kernel
theorem zd195_14 : decode zxm195.2.1 14 = .ok (.iconst 1, 1) := by decide +kernel
theorem zd195_15 : decode zxm195.2.1 15 = .ok (.iadd, 1) := by decide +kernel
theorem zd195_16 : decode zxm195.2.1 16 = .ok (.invokevirtual 17, 3) := by decide +kernel
theorem zd195_19 : decode zxm195.2.1 19 = .ok (.bipush 16, 2) := by decide +kernel
theorem zd195_21 : decode zxm195.2.1 21 = .ok (.ishl, 1) := by decide +kernel
theorem zd195_22 : decode zxm195.2.1 22 = .ok (.ior, 1) := by decide +kernel
theorem zd195_23 : decode zxm195.2.1 23 = .ok (.aload_n 0, 1) := by decide +kernel
theorem zd195_24 : decode zxm195.2.1 24 = .ok (.iconst 4, 1) := by decide +kernel
theorem zd195_25 : decode zxm195.2.1 25 = .ok (.iload_n 1, 1) := by decide +kernel
theorem zd195_26 : decode zxm195.2.1 26 = .ok (.imul, 1) := by decide +kernel
theorem zd195_27 : decode zxm195.2.1 27 = .ok (.iconst 2, 1) := by decide +kernel
theorem zd195_28 : decode zxm195.2.1 28 = .ok (.iadd, 1) := by decide +kernel
theorem zd195_29 : decode zxm195.2.1 29 = .ok (.invokevirtual 17, 3) := by decide +kernel
theorem zd195_32 : decode zxm195.2.1 32 = .ok (.bipush 8, 2) := by decide +kernel
theorem zd195_34 : decode zxm195.2.1 34 = .ok (.ishl, 1) := by decide +kernel
theorem zd195_35 : decode zxm195.2.1 35 = .ok (.ior, 1) := by decide +kernel
theorem zd195_36 : decode zxm195.2.1 36 = .ok (.aload_n 0, 1) := by decide +kernel
theorem zd195_37 : decode zxm195.2.1 37 = .ok (.iconst 4, 1) := by decide +kernel
theorem zd195_38 : decode zxm195.2.1 38 = .ok (.iload_n 1, 1) := by decide +kernel
theorem zd195_39 : decode zxm195.2.1 39 = .ok (.imul, 1) := by decide +kernel
theorem zd195_40 : decode zxm195.2.1 40 = .ok (.iconst 3, 1) := by decide +kernel
theorem zd195_41 : decode zxm195.2.1 41 = .ok (.iadd, 1) := by decide +kernel
theorem zd195_42 : decode zxm195.2.1 42 = .ok (.invokevirtual 17, 3) := by decide +kernel
theorem zd195_45 : decode zxm195.2.1 45 = .ok (.ior, 1) := by decide +kernel
theorem zd195_46 : decode zxm195.2.1 46 = .ok (.ireturn, 1) := by decide +kernel
theorem zt_Tape_numberAt {x1 : Int} {g0 : (Int → Int)} {o : Int} (h : zf_Tape_numberAt x1 g0 = some o) : zv_Fn z_TB z_cl z_KX zy_Tape_numberAt zxm195 (1, 60) [.inr 0, .inl x1] [] [g0] (some o) [] [g0] := zv_meth (K := (z_KF10, z_KC10, z_KL10, z_KT10, [], [], [], none)) (FT := z_FT) (MT := z_MT) (n := 2) zxp195 (z_ks10 _ (fun _ h => List.mem_cons_of_mem _ h) _ _ _ _ (fun j r h _ => by cases h)) (fun _ _ => zs_KX_p) zyw_Tape_numberAt (fun va F G h => by obtain ⟨rfl, _⟩ := h; rfl) (fun va F G h => by obtain ⟨rfl, _⟩ := h; rfl) rfl fun good va F G hB hret hvret hP => by
  obtain ⟨rfl, rfl, rfl⟩ := hP
  unfold zf_Tape_numberAt at h
  refine zv_ald hB zd195_0 rfl rfl rfl ?_
  refine zv_con hB zd195_1 rfl ?_
  refine zv_ild hB zd195_2 rfl rfl ?_
  refine zv_mulw hB zd195_3 ?_
  obtain ⟨r1, hr1, h⟩ := zi_bind h
  refine zv_cv hB (zv_emq (va2 := [.inr 0, .inl (zi_w (4 * x1))]) (F := []) (F' := []) (G := [g0]) (G' := [g0]) (ρ := [0, 1]) (φ := []) (ψ := [0]) [] [some 0] zyw_Tape_byteAt zyw_Tape_numberAt zye_Tape_numberAt (by decide +kernel) (zt_Tape_byteAt hr1) trivial ⟨rfl, trivial⟩ rfl rfl rfl rfl rfl rfl rfl) zd195_4 zxt138 rfl (by decide) (by decide) rfl ?_
  refine zv_con hB zd195_7 rfl ?_
  refine zv_shlw hB zd195_9 ?_
  refine zv_ald hB zd195_10 rfl rfl rfl ?_
  refine zv_con hB zd195_11 rfl ?_
  refine zv_ild hB zd195_12 rfl rfl ?_
  refine zv_mulw hB zd195_13 ?_
  refine zv_con hB zd195_14 rfl ?_
  refine zv_addw hB zd195_15 ?_
  obtain ⟨r2, hr2, h⟩ := zi_bind h
  refine zv_cv hB (zv_emq (va2 := [.inr 0, .inl (zi_w ((zi_w (4 * x1)) + 1))]) (F := []) (F' := []) (G := [g0]) (G' := [g0]) (ρ := [0, 1]) (φ := []) (ψ := [0]) [] [some 0] zyw_Tape_byteAt zyw_Tape_numberAt zye_Tape_numberAt (by decide +kernel) (zt_Tape_byteAt hr2) trivial ⟨rfl, trivial⟩ rfl rfl rfl rfl rfl rfl rfl) zd195_16 zxt138 rfl (by decide) (by decide) rfl ?_
  refine zv_con hB zd195_19 rfl ?_
  refine zv_shlw hB zd195_21 ?_
  refine zv_orw hB zd195_22 ?_
  refine zv_ald hB zd195_23 rfl rfl rfl ?_
  refine zv_con hB zd195_24 rfl ?_
  refine zv_ild hB zd195_25 rfl rfl ?_
  refine zv_mulw hB zd195_26 ?_
  refine zv_con hB zd195_27 rfl ?_
  refine zv_addw hB zd195_28 ?_
  obtain ⟨r3, hr3, h⟩ := zi_bind h
  refine zv_cv hB (zv_emq (va2 := [.inr 0, .inl (zi_w ((zi_w (4 * x1)) + 2))]) (F := []) (F' := []) (G := [g0]) (G' := [g0]) (ρ := [0, 1]) (φ := []) (ψ := [0]) [] [some 0] zyw_Tape_byteAt zyw_Tape_numberAt zye_Tape_numberAt (by decide +kernel) (zt_Tape_byteAt hr3) trivial ⟨rfl, trivial⟩ rfl rfl rfl rfl rfl rfl rfl) zd195_29 zxt138 rfl (by decide) (by decide) rfl ?_
  refine zv_con hB zd195_32 rfl ?_
  refine zv_shlw hB zd195_34 ?_
  refine zv_orw hB zd195_35 ?_
  refine zv_ald hB zd195_36 rfl rfl rfl ?_
  refine zv_con hB zd195_37 rfl ?_
  refine zv_ild hB zd195_38 rfl rfl ?_
  refine zv_mulw hB zd195_39 ?_
  refine zv_con hB zd195_40 rfl ?_
  refine zv_addw hB zd195_41 ?_
  obtain ⟨r4, hr4, h⟩ := zi_bind h
  refine zv_cv hB (zv_emq (va2 := [.inr 0, .inl (zi_w ((zi_w (4 * x1)) + 3))]) (F := []) (F' := []) (G := [g0]) (G' := [g0]) (ρ := [0, 1]) (φ := []) (ψ := [0]) [] [some 0] zyw_Tape_byteAt zyw_Tape_numberAt zye_Tape_numberAt (by decide +kernel) (zt_Tape_byteAt hr4) trivial ⟨rfl, trivial⟩ rfl rfl rfl rfl rfl rfl rfl) zd195_42 zxt138 rfl (by decide) (by decide) rfl ?_
  refine zv_orw hB zd195_45 ?_
  have hw := Option.some.inj h
  subst hw
  exact hret _ _ _ _ _ zd195_46 (by trivial) ⟨rfl, rfl, rfl⟩
/-! X_check (I)I -/
-- names: 0 StarTales('arg', 0), 1 Tape(0, 0, 6), 2 Sea(0, 0, 3), 3 (0, 220)(1, 3, 0), 4 (0, 6)(2, 2, 2)
-- fields: f0 = 1.size_, f1 = 2.shipsTold_; arrays: g0 = 3, g1 = 4; out: [('ret', None), ('f', 0)]
abbrev zy_X_check : zNL := (5, [(0, 0), (1, 3), (2, 2)], [(1, 3, 1, 0), (2, 2, 1, 1)], [(0, 0, 6, 1), (0, 0, 3, 2), (1, 3, 0, 3), (2, 2, 2, 4)], [(3, 0, 220, 0), (4, 0, 6, 1)])
theorem zyw_X_check : zv_wf zy_X_check = true := by decide +kernel
theorem zye_X_check : zv_ek2 zy_X_check = true := by decide +kernel
def zf_X_check_l0_b (x1 : Int) (f0 : Int) (f1 : Int) (g0 : (Int → Int)) (g1 : (Int → Int)) (rec : Int → Option (((Unit) ⊕ (Int × Int)))) (x2 : Int) : Option (((Unit) ⊕ (Int × Int))) := if x2 < x1 then ((zf_Sea_hasShip x2 f1).bind fun r6 => (if r6 = 0 then ((zf_Tape_numberAt x2 g0).bind fun r8 => (if r8 = 0 then (rec (zi_w (x2 + 1))) else (some (.inr (x2, f0))))) else (cond (zi_ix x2 6) ((zf_Tape_numberAt x2 g0).bind fun r11 => (if r11 = (g1 x2) then (rec (zi_w (x2 + 1))) else (some (.inr (x2, f0))))) none))) else (some (.inl ()))
def zf_X_check_l0 (x1 : Int) (f0 : Int) (f1 : Int) (g0 : (Int → Int)) (g1 : (Int → Int)) : Nat → Int → Option (((Unit) ⊕ (Int × Int)))
  | 0, _ => none
  | n + 1, x2 => zf_X_check_l0_b x1 f0 f1 g0 g1 (zf_X_check_l0 x1 f0 f1 g0 g1 n) x2
def zf_X_check (x1 : Int) (f0 : Int) (f1 : Int) (g0 : (Int → Int)) (g1 : (Int → Int)) : Option (Int × Int) := (zf_X_isWithin x1 0 6).bind fun r1 => (if r1 = 0 then (some ((-2), f0)) else ((zf_Tape_take (zi_w (4 * x1)) f0).bind fun r3 => (if r3.1 = 0 then (some ((-2), r3.2)) else ((zf_X_check_l0 x1 r3.2 f1 g0 g1 zi_fu 0).bind fun q13 => Sum.elim (fun e14 => (some ((-1), r3.2))) (fun w15 => some w15) q13))))
theorem zd194_0 : decode zxm194.2.1 0 = .ok (.iload_n 1, 1) := by decide +kernel
theorem zd194_1 : decode zxm194.2.1 1 = .ok (.iconst 0, 1) := by decide +kernel
theorem zd194_2 : decode zxm194.2.1 2 = .ok (.bipush 6, 2) := by decide +kernel
theorem zd194_4 : decode zxm194.2.1 4 = .ok (.invokestatic 126, 3) := by decide +kernel
theorem zd194_7 : decode zxm194.2.1 7 = .ok (.ifCond .eq 16, 3) := by decide +kernel
theorem zd194_10 : decode zxm194.2.1 10 = .ok (.aload_n 0, 1) := by decide +kernel
theorem zd194_11 : decode zxm194.2.1 11 = .ok (.getfield 39, 3) := by decide +kernel
theorem zd194_14 : decode zxm194.2.1 14 = .ok (.iconst 4, 1) := by decide +kernel
theorem zd194_15 : decode zxm194.2.1 15 = .ok (.iload_n 1, 1) := by decide +kernel
theorem zd194_16 : decode zxm194.2.1 16 = .ok (.imul, 1) := by decide +kernel
theorem zd194_17 : decode zxm194.2.1 17 = .ok (.invokevirtual 197, 3) := by decide +kernel
theorem zd194_20 : decode zxm194.2.1 20 = .ok (.ifCond .ne 6, 3) := by decide +kernel
theorem zd194_23 : decode zxm194.2.1 23 = .ok (.bipush (-2), 2) := by decide +kernel
theorem zd194_25 : decode zxm194.2.1 25 = .ok (.ireturn, 1) := by decide +kernel
theorem zd194_26 : decode zxm194.2.1 26 = .ok (.iconst 0, 1) := by decide +kernel
theorem zd194_27 : decode zxm194.2.1 27 = .ok (.istore_n 2, 1) := by decide +kernel
theorem zd194_28 : decode zxm194.2.1 28 = .ok (.iload_n 2, 1) := by decide +kernel
theorem zd194_29 : decode zxm194.2.1 29 = .ok (.iload_n 1, 1) := by decide +kernel
theorem zd194_30 : decode zxm194.2.1 30 = .ok (.if_icmp .ge 48, 3) := by decide +kernel
theorem zd194_33 : decode zxm194.2.1 33 = .ok (.aload_n 0, 1) := by decide +kernel
theorem zd194_34 : decode zxm194.2.1 34 = .ok (.getfield 25, 3) := by decide +kernel
theorem zd194_37 : decode zxm194.2.1 37 = .ok (.iload_n 2, 1) := by decide +kernel
theorem zd194_38 : decode zxm194.2.1 38 = .ok (.invokevirtual 323, 3) := by decide +kernel
theorem zd194_41 : decode zxm194.2.1 41 = .ok (.ifCond .eq 15, 3) := by decide +kernel
theorem zd194_44 : decode zxm194.2.1 44 = .ok (.aload_n 0, 1) := by decide +kernel
theorem zd194_45 : decode zxm194.2.1 45 = .ok (.getfield 25, 3) := by decide +kernel
theorem zd194_48 : decode zxm194.2.1 48 = .ok (.getfield 187, 3) := by decide +kernel
theorem zd194_51 : decode zxm194.2.1 51 = .ok (.iload_n 2, 1) := by decide +kernel
theorem zd194_52 : decode zxm194.2.1 52 = .ok (.iaload, 1) := by decide +kernel
theorem zd194_53 : decode zxm194.2.1 53 = .ok (.goto 4, 3) := by decide +kernel
theorem zd194_56 : decode zxm194.2.1 56 = .ok (.iconst 0, 1) := by decide +kernel
theorem zd194_57 : decode zxm194.2.1 57 = .ok (.istore_n 3, 1) := by decide +kernel
theorem zd194_58 : decode zxm194.2.1 58 = .ok (.aload_n 0, 1) := by decide +kernel
theorem zd194_59 : decode zxm194.2.1 59 = .ok (.getfield 39, 3) := by decide +kernel
theorem zd194_62 : decode zxm194.2.1 62 = .ok (.iload_n 2, 1) := by decide +kernel
theorem zd194_63 : decode zxm194.2.1 63 = .ok (.invokevirtual 417, 3) := by decide +kernel
theorem zd194_66 : decode zxm194.2.1 66 = .ok (.iload_n 3, 1) := by decide +kernel
theorem zd194_67 : decode zxm194.2.1 67 = .ok (.if_icmp .eq 5, 3) := by decide +kernel
theorem zd194_70 : decode zxm194.2.1 70 = .ok (.iload_n 2, 1) := by decide +kernel
theorem zd194_71 : decode zxm194.2.1 71 = .ok (.ireturn, 1) := by decide +kernel
theorem zd194_72 : decode zxm194.2.1 72 = .ok (.iinc 2 1, 3) := by decide +kernel
theorem zd194_75 : decode zxm194.2.1 75 = .ok (.goto (-47), 3) := by decide +kernel
theorem zd194_78 : decode zxm194.2.1 78 = .ok (.iconst (-1), 1) := by decide +kernel
theorem zd194_79 : decode zxm194.2.1 79 = .ok (.ireturn, 1) := by decide +kernel
theorem zt_X_check {x1 : Int} {f0 : Int} {f1 : Int} {g0 : (Int → Int)} {g1 : (Int → Int)} {o : Int × Int} (h : zf_X_check x1 f0 f1 g0 g1 = some o) : zv_Fn z_TB z_cl z_KX zy_X_check zxm194 (2, 120) [.inr 0, .inl x1] [.inl f0, .inl f1] [g0, g1] (some o.1) [.inl o.2, .inl f1] [g0, g1] := zv_meth (K := (z_KF0, z_KC0, z_KL0, z_KT0, [], [], [], none)) (FT := z_FT) (MT := z_MT) (n := 2) zxp194 (z_ks0 _ (fun _ h => List.mem_cons_of_mem _ h) _ _ _ _ (fun j r h _ => by cases h)) (fun _ _ => zs_KX_p) zyw_X_check (fun va F G h => by obtain ⟨rfl, _⟩ := h; rfl) (fun va F G h => by obtain ⟨rfl, _⟩ := h; rfl) rfl fun good va F G hB hret hvret hP => by
  obtain ⟨rfl, rfl, rfl⟩ := hP
  have l0 : ∀ (n : Nat) (x1 : Int) (x2 : Int) (f0 : Int) (q : ((Unit) ⊕ (Int × Int))), zf_X_check_l0 x1 f0 f1 g0 g1 n x2 = some q → (Sum.elim (fun e : Unit => good 78 [.inr 1000, .inr 1000, .inr 1000, .inr 1000] [] [.inl f0, .inl f1] [g0, g1]) (fun w : Int × Int => w = o) q) → good 28 [.inr 0, .inl x1, .inl x2, .inr 1000] [] [.inl f0, .inl f1] [g0, g1] := by
    intro n
    induction n with
    | zero => intro x1 x2 f0 q h; exact absurd (show none = some q from h) (fun h => by cases h)
    | succ n ih =>
      intro x1 x2 f0 q h hK
      replace h : zf_X_check_l0_b x1 f0 f1 g0 g1 (zf_X_check_l0 x1 f0 f1 g0 g1 n) x2 = some q := h
      unfold zf_X_check_l0_b at h
      refine zv_ild hB zd194_28 rfl rfl ?_
      refine zv_ild hB zd194_29 rfl rfl ?_
      refine zv_cge hB zd194_30 rfl (fun hc5 => ?_) (fun hc5 => ?_)
      · rw [if_neg (Int.not_lt.mpr hc5)] at h
        have hq := Option.some.inj h
        subst hq
        refine zv_wk hB (L' := [.inr 1000, .inr 1000, .inr 1000, .inr 1000]) (F' := [.inl f0, .inl f1]) ⟨fun (h : zv_is (.inr 1000)) => (Nat.lt_irrefl 1000 h).elim, fun (h : zv_is (.inr 1000)) => (Nat.lt_irrefl 1000 h).elim, fun (h : zv_is (.inr 1000)) => (Nat.lt_irrefl 1000 h).elim, fun (h : zv_is (.inr 1000)) => (Nat.lt_irrefl 1000 h).elim, trivial⟩ ⟨fun _ => rfl, fun _ => rfl, trivial⟩ ?_
        exact hK
      · rw [if_pos hc5] at h
        refine zv_ald hB zd194_33 rfl rfl rfl ?_
        refine zv_getr hB zd194_34 rfl ?_
        refine zv_ild hB zd194_37 rfl rfl ?_
        obtain ⟨r6, hr6, h⟩ := zi_bind h
        refine zv_cv hB (zv_emq (va2 := [.inr 2, .inl x2]) (F := [.inl f0, .inl f1]) (F' := [.inl f0, .inl f1]) (G := [g0, g1]) (G' := [g0, g1]) (ρ := [2]) (φ := [1]) (ψ := []) [none, some 0] [none, none] zyw_Sea_hasShip zyw_X_check zye_X_check (by decide +kernel) (zt_Sea_hasShip hr6) ⟨⟨_, rfl, fun _ => rfl⟩, trivial⟩ trivial rfl rfl rfl rfl rfl rfl rfl) zd194_38 zxt26 rfl (by decide) (by decide) rfl ?_
        refine zv_zeq hB zd194_41 rfl (fun hc7 => ?_) (fun hc7 => ?_)
        · rw [if_pos hc7] at h
          refine zv_con hB zd194_56 rfl ?_
          refine zv_ist hB zd194_57 rfl rfl rfl ?_
          refine zv_ald hB zd194_58 rfl rfl rfl ?_
          refine zv_getr hB zd194_59 rfl ?_
          refine zv_ild hB zd194_62 rfl rfl ?_
          obtain ⟨r8, hr8, h⟩ := zi_bind h
          refine zv_cv hB (zv_emq (va2 := [.inr 1, .inl x2]) (F := [.inl f0, .inl f1]) (F' := [.inl f0, .inl f1]) (G := [g0, g1]) (G' := [g0, g1]) (ρ := [1, 3]) (φ := []) (ψ := [0]) [none, none] [some 0, none] zyw_Tape_numberAt zyw_X_check zye_X_check (by decide +kernel) (zt_Tape_numberAt hr8) trivial ⟨rfl, trivial⟩ rfl rfl rfl rfl rfl rfl rfl) zd194_63 zxt195 rfl (by decide) (by decide) rfl ?_
          refine zv_ild hB zd194_66 rfl rfl ?_
          refine zv_ceq hB zd194_67 rfl (fun hc9 => ?_) (fun hc9 => ?_)
          · rw [if_pos hc9] at h
            refine zv_iincw hB zd194_72 rfl rfl ?_
            refine zv_goto hB zd194_75 rfl ?_
            refine zv_wk hB (L' := [.inr 0, .inl x1, .inl (zi_w (x2 + 1)), .inr 1000]) (F' := [.inl f0, .inl f1]) ⟨fun _ => rfl, fun _ => rfl, fun _ => rfl, fun (h : zv_is (.inr 1000)) => (Nat.lt_irrefl 1000 h).elim, trivial⟩ ⟨fun _ => rfl, fun _ => rfl, trivial⟩ ?_
            exact ih _ _ _ q h hK
          · rw [if_neg hc9] at h
            refine zv_ild hB zd194_70 rfl rfl ?_
            have hw : (x2, f0) = o := zi_rk (Option.some.inj h) hK
            subst hw
            exact hret _ _ _ _ _ zd194_71 (by trivial) ⟨rfl, rfl, rfl⟩
        · rw [if_neg hc7] at h
          refine zv_ald hB zd194_44 rfl rfl rfl ?_
          refine zv_getr hB zd194_45 rfl ?_
          refine zv_getr hB zd194_48 rfl ?_
          refine zv_ild hB zd194_51 rfl rfl ?_
          obtain ⟨c10, h⟩ := zi_if h
          refine zv_iald hB zd194_52 rfl rfl (zi_ix_ok c10).1 (zi_ix_ok c10).2 (fun _ _ => ?_)
          refine zv_goto hB zd194_53 rfl ?_
          refine zv_ist hB zd194_57 rfl rfl rfl ?_
          refine zv_ald hB zd194_58 rfl rfl rfl ?_
          refine zv_getr hB zd194_59 rfl ?_
          refine zv_ild hB zd194_62 rfl rfl ?_
          obtain ⟨r11, hr11, h⟩ := zi_bind h
          refine zv_cv hB (zv_emq (va2 := [.inr 1, .inl x2]) (F := [.inl f0, .inl f1]) (F' := [.inl f0, .inl f1]) (G := [g0, g1]) (G' := [g0, g1]) (ρ := [1, 3]) (φ := []) (ψ := [0]) [none, none] [some 0, none] zyw_Tape_numberAt zyw_X_check zye_X_check (by decide +kernel) (zt_Tape_numberAt hr11) trivial ⟨rfl, trivial⟩ rfl rfl rfl rfl rfl rfl rfl) zd194_63 zxt195 rfl (by decide) (by decide) rfl ?_
          refine zv_ild hB zd194_66 rfl rfl ?_
          refine zv_ceq hB zd194_67 rfl (fun hc12 => ?_) (fun hc12 => ?_)
          · rw [if_pos hc12] at h
            refine zv_iincw hB zd194_72 rfl rfl ?_
            refine zv_goto hB zd194_75 rfl ?_
            refine zv_wk hB (L' := [.inr 0, .inl x1, .inl (zi_w (x2 + 1)), .inr 1000]) (F' := [.inl f0, .inl f1]) ⟨fun _ => rfl, fun _ => rfl, fun _ => rfl, fun (h : zv_is (.inr 1000)) => (Nat.lt_irrefl 1000 h).elim, trivial⟩ ⟨fun _ => rfl, fun _ => rfl, trivial⟩ ?_
            exact ih _ _ _ q h hK
          · rw [if_neg hc12] at h
            refine zv_ild hB zd194_70 rfl rfl ?_
            have hw : (x2, f0) = o := zi_rk (Option.some.inj h) hK
            subst hw
            exact hret _ _ _ _ _ zd194_71 (by trivial) ⟨rfl, rfl, rfl⟩
  unfold zf_X_check at h
  refine zv_ild hB zd194_0 rfl rfl ?_
  refine zv_con hB zd194_1 rfl ?_
  refine zv_con hB zd194_2 rfl ?_
  obtain ⟨r1, hr1, h⟩ := zi_bind h
  refine zv_cs hB (zv_emq (va2 := [.inl x1, .inl 0, .inl 6]) (F := [.inl f0, .inl f1]) (F' := [.inl f0, .inl f1]) (G := [g0, g1]) (G' := [g0, g1]) (ρ := []) (φ := []) (ψ := []) [none, none] [none, none] zyw_X_isWithin zyw_X_check zye_X_check (by decide +kernel) (zt_X_isWithin hr1) trivial trivial rfl rfl rfl rfl rfl rfl rfl) zd194_4 zxt15 rfl (by decide) (by decide) rfl ?_
  refine zv_zeq hB zd194_7 rfl (fun hc2 => ?_) (fun hc2 => ?_)
  · rw [if_pos hc2] at h
    refine zv_con hB zd194_23 rfl ?_
    have hw := Option.some.inj h
    subst hw
    exact hret _ _ _ _ _ zd194_25 (by trivial) ⟨rfl, rfl, rfl⟩
  · rw [if_neg hc2] at h
    refine zv_ald hB zd194_10 rfl rfl rfl ?_
    refine zv_getr hB zd194_11 rfl ?_
    refine zv_con hB zd194_14 rfl ?_
    refine zv_ild hB zd194_15 rfl rfl ?_
    refine zv_mulw hB zd194_16 ?_
    obtain ⟨r3, hr3, h⟩ := zi_bind h
    refine zv_cv hB (zv_emq (va2 := [.inr 1, .inl (zi_w (4 * x1))]) (F := [.inl f0, .inl f1]) (F' := [.inl r3.2, .inl f1]) (G := [g0, g1]) (G' := [g0, g1]) (ρ := [1]) (φ := [0]) (ψ := []) [some 0, none] [none, none] zyw_Tape_take zyw_X_check zye_X_check (by decide +kernel) (zt_Tape_take hr3) ⟨⟨_, rfl, fun _ => rfl⟩, trivial⟩ trivial rfl rfl rfl rfl rfl rfl rfl) zd194_17 zxt35 rfl (by decide) (by decide) rfl ?_
    refine zv_zne hB zd194_20 rfl (fun hc4 => ?_) (fun hc4 => ?_)
    · rw [if_neg hc4] at h
      refine zv_con hB zd194_26 rfl ?_
      refine zv_ist hB zd194_27 rfl rfl rfl ?_
      obtain ⟨q13, hq13, h⟩ := zi_bind h
      refine l0 _ _ _ _ q13 hq13 ?_
      rcases q13 with e14 | w15
      · replace h := zi_sl h
        show good 78 [.inr 1000, .inr 1000, .inr 1000, .inr 1000] [] [.inl r3.2, .inl f1] [g0, g1]
        refine zv_con hB zd194_78 rfl ?_
        have hw := Option.some.inj h
        subst hw
        exact hret _ _ _ _ _ zd194_79 (by trivial) ⟨rfl, rfl, rfl⟩
      · exact Option.some.inj h
    · rw [if_pos hc4] at h
      refine zv_con hB zd194_23 rfl ?_
      have hw := Option.some.inj h
      subst hw
      exact hret _ _ _ _ _ zd194_25 (by trivial) ⟨rfl, rfl, rfl⟩
/-! Sea_countLand ()I -/
-- names: 0 Sea('arg', 0), 1 (0, 12)(0, 2, 0)
-- fields: ; arrays: g0 = 1; out: [('ret', None)]
abbrev zy_Sea_countLand : zNL := (2, [(0, 2)], [], [(0, 2, 0, 1)], [(1, 0, 12, 0)])
theorem zyw_Sea_countLand : zv_wf zy_Sea_countLand = true := by decide +kernel
theorem zye_Sea_countLand : zv_ek2 zy_Sea_countLand = true := by decide +kernel
def zf_Sea_countLand_l0_b (g0 : (Int → Int)) (rec : Int → Int → Option (Int)) (x1 : Int) (x2 : Int) : Option (Int) := if x2 < 12 then (cond (zi_ix x2 12) ((zf_Integer_bitCount (g0 x2)).bind fun r3 => (rec (zi_w (x1 + r3)) (zi_w (x2 + 1)))) none) else (some x1)
def zf_Sea_countLand_l0 (g0 : (Int → Int)) : Nat → Int → Int → Option (Int)
  | 0, _, _ => none
  | n + 1, x1, x2 => zf_Sea_countLand_l0_b g0 (zf_Sea_countLand_l0 g0 n) x1 x2
def zf_Sea_countLand (g0 : (Int → Int)) : Option (Int) := (zf_Sea_countLand_l0 g0 zi_fu 0 0).bind fun q4 => (some q4)
theorem zd197_0 : decode zxm197.2.1 0 = .ok (.iconst 0, 1) := by decide +kernel
theorem zd197_1 : decode zxm197.2.1 1 = .ok (.istore_n 1, 1) := by decide +kernel
theorem zd197_2 : decode zxm197.2.1 2 = .ok (.iconst 0, 1) := by decide +kernel
theorem zd197_3 : decode zxm197.2.1 3 = .ok (.istore_n 2, 1) := by decide +kernel
theorem zd197_4 : decode zxm197.2.1 4 = .ok (.iload_n 2, 1) := by decide +kernel
theorem zd197_5 : decode zxm197.2.1 5 = .ok (.bipush 12, 2) := by decide +kernel
theorem zd197_7 : decode zxm197.2.1 7 = .ok (.if_icmp .ge 21, 3) := by decide +kernel
theorem zd197_10 : decode zxm197.2.1 10 = .ok (.iload_n 1, 1) := by decide +kernel
theorem zd197_11 : decode zxm197.2.1 11 = .ok (.aload_n 0, 1) := by decide +kernel
theorem zd197_12 : decode zxm197.2.1 12 = .ok (.getfield 9, 3) := by decide +kernel
theorem zd197_15 : decode zxm197.2.1 15 = .ok (.iload_n 2, 1) := by decide +kernel
theorem zd197_16 : decode zxm197.2.1 16 = .ok (.iaload, 1) := by decide +kernel
theorem zd197_17 : decode zxm197.2.1 17 = .ok (.invokestatic 29, 3) := by decide +kernel
theorem zd197_20 : decode zxm197.2.1 20 = .ok (.iadd, 1) := by decide +kernel
theorem zd197_21 : decode zxm197.2.1 21 = .ok (.istore_n 1, 1) := by decide +kernel
theorem zd197_22 : decode zxm197.2.1 22 = .ok (.iinc 2 1, 3) := by decide +kernel
theorem zd197_25 : decode zxm197.2.1 25 = .ok (.goto (-21), 3) := by decide +kernel
theorem zd197_28 : decode zxm197.2.1 28 = .ok (.iload_n 1, 1) := by decide +kernel
theorem zd197_29 : decode zxm197.2.1 29 = .ok (.ireturn, 1) := by decide +kernel
theorem zt_Sea_countLand {g0 : (Int → Int)} {o : Int} (h : zf_Sea_countLand g0 = some o) : zv_Fn z_TB z_cl z_KX zy_Sea_countLand zxm197 (1, 60) [.inr 0] [] [g0] (some o) [] [g0] := zv_meth (K := (z_KF7, z_KC7, z_KL7, z_KT7, [], [], [], none)) (FT := z_FT) (MT := z_MT) (n := 1) zxp197 (z_ks7 _ (fun _ h => List.mem_cons_of_mem _ h) _ _ _ _ (fun j r h _ => by cases h)) (fun _ _ => zs_KX_p) zyw_Sea_countLand (fun va F G h => by obtain ⟨rfl, _⟩ := h; rfl) (fun va F G h => by obtain ⟨rfl, _⟩ := h; rfl) rfl fun good va F G hB hret hvret hP => by
  obtain ⟨rfl, rfl, rfl⟩ := hP
  have l0 : ∀ (n : Nat) (x1 : Int) (x2 : Int) (q : Int), zf_Sea_countLand_l0 g0 n x1 x2 = some q → (good 28 [.inr 1000, .inl q, .inr 1000] [] [] [g0]) → good 4 [.inr 0, .inl x1, .inl x2] [] [] [g0] := by
    intro n
    induction n with
    | zero => intro x1 x2 q h; exact absurd (show none = some q from h) (fun h => by cases h)
    | succ n ih =>
      intro x1 x2 q h hK
      replace h : zf_Sea_countLand_l0_b g0 (zf_Sea_countLand_l0 g0 n) x1 x2 = some q := h
      unfold zf_Sea_countLand_l0_b at h
      refine zv_ild hB zd197_4 rfl rfl ?_
      refine zv_con hB zd197_5 rfl ?_
      refine zv_cge hB zd197_7 rfl (fun hc1 => ?_) (fun hc1 => ?_)
      · rw [if_neg (Int.not_lt.mpr hc1)] at h
        have hq := Option.some.inj h
        subst hq
        refine zv_wk hB (L' := [.inr 1000, .inl x1, .inr 1000]) (F' := []) ⟨fun (h : zv_is (.inr 1000)) => (Nat.lt_irrefl 1000 h).elim, fun _ => rfl, fun (h : zv_is (.inr 1000)) => (Nat.lt_irrefl 1000 h).elim, trivial⟩ trivial ?_
        exact hK
      · rw [if_pos hc1] at h
        refine zv_ild hB zd197_10 rfl rfl ?_
        refine zv_ald hB zd197_11 rfl rfl rfl ?_
        refine zv_getr hB zd197_12 rfl ?_
        refine zv_ild hB zd197_15 rfl rfl ?_
        obtain ⟨c2, h⟩ := zi_if h
        refine zv_iald hB zd197_16 rfl rfl (zi_ix_ok c2).1 (zi_ix_ok c2).2 (fun _ _ => ?_)
        obtain ⟨r3, hr3, h⟩ := zi_bind h
        refine zv_cs hB (zv_emq (va2 := [.inl (g0 x2)]) (F := []) (F' := []) (G := [g0]) (G' := [g0]) (ρ := []) (φ := []) (ψ := []) [] [none] zyw_Integer_bitCount zyw_Sea_countLand zye_Sea_countLand (by decide +kernel) (zt_Integer_bitCount hr3) trivial trivial rfl rfl rfl rfl rfl rfl rfl) zd197_17 zxt102 rfl (by decide) (by decide) rfl ?_
        refine zv_addw hB zd197_20 ?_
        refine zv_ist hB zd197_21 rfl rfl rfl ?_
        refine zv_iincw hB zd197_22 rfl rfl ?_
        refine zv_goto hB zd197_25 rfl ?_
        exact ih _ _ q h hK
  unfold zf_Sea_countLand at h
  refine zv_con hB zd197_0 rfl ?_
  refine zv_ist hB zd197_1 rfl rfl rfl ?_
  refine zv_con hB zd197_2 rfl ?_
  refine zv_ist hB zd197_3 rfl rfl rfl ?_
  obtain ⟨q4, hq4, h⟩ := zi_bind h
  refine l0 _ _ _ q4 hq4 ?_
  show good 28 [.inr 1000, .inl q4, .inr 1000] [] [] [g0]
  refine zv_ild hB zd197_28 rfl rfl ?_
  have hw := Option.some.inj h
  subst hw
  exact hret _ _ _ _ _ zd197_29 (by trivial) ⟨rfl, rfl, rfl⟩
end
