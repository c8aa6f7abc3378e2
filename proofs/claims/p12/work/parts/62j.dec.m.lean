/-! 62j.dec, 62k.dec -/
section
/-! Methods as functions, and that they do what these do. -/
/-! M_tellsApart (I)Z -/
-- names: 0 StarTalesModel('arg', 0), 1 (0, 28)(0, 12, 47)
-- fields: f0 = 0.unlikeMany_; arrays: g0 = 1; out: [('ret', None)]
abbrev zy_M_tellsApart : zNL := (2, [(0, 12)], [(0, 12, 48, 0)], [(0, 12, 47, 1)], [(1, 0, 28, 0)])
theorem zyw_M_tellsApart : zv_wf zy_M_tellsApart = true := by decide +kernel
theorem zye_M_tellsApart : zv_ek2 zy_M_tellsApart = true := by decide +kernel
def zf_M_tellsApart_l0_b (x1 : Int) (f0 : Int) (g0 : (Int → Int)) (rec : Int → Option (((Unit) ⊕ (Int)))) (x2 : Int) : Option (((Unit) ⊕ (Int))) := if x2 < f0 then (cond (zi_ix x2 28) (if (zi_and (g0 x2) x1) = 0 then (some (.inr 0)) else (rec (zi_w (x2 + 1)))) none) else (some (.inl ()))
def zf_M_tellsApart_l0 (x1 : Int) (f0 : Int) (g0 : (Int → Int)) : Nat → Int → Option (((Unit) ⊕ (Int)))
  | 0, _ => none
  | n + 1, x2 => zf_M_tellsApart_l0_b x1 f0 g0 (zf_M_tellsApart_l0 x1 f0 g0 n) x2
def zf_M_tellsApart (x1 : Int) (f0 : Int) (g0 : (Int → Int)) : Option (Int) := (zf_M_tellsApart_l0 x1 f0 g0 zi_fu 0).bind fun q4 => Sum.elim (fun e5 => (some 1)) (fun w6 => some w6) q4
theorem zd286_0 : decode zxm286.2.1 0 = .ok (.iconst 0, 1) := by decide +kernel
theorem zd286_1 : decode zxm286.2.1 1 = .ok (.istore_n 2, 1) := by decide +kernel
theorem zd286_2 : decode zxm286.2.1 2 = .ok (.iload_n 2, 1) := by decide +kernel
theorem zd286_3 : decode zxm286.2.1 3 = .ok (.aload_n 0, 1) := by decide +kernel
theorem zd286_4 : decode zxm286.2.1 4 = .ok (.getfield 395, 3) := by decide +kernel
theorem zd286_7 : decode zxm286.2.1 7 = .ok (.if_icmp .ge 22, 3) := by decide +kernel
theorem zd286_10 : decode zxm286.2.1 10 = .ok (.aload_n 0, 1) := by decide +kernel
theorem zd286_11 : decode zxm286.2.1 11 = .ok (.getfield 101, 3) := by decide +kernel
theorem zd286_14 : decode zxm286.2.1 14 = .ok (.iload_n 2, 1) := by decide +kernel
theorem zd286_15 : decode zxm286.2.1 15 = .ok (.iaload, 1) := by decide +kernel
theorem zd286_16 : decode zxm286.2.1 16 = .ok (.iload_n 1, 1) := by decide +kernel
theorem zd286_17 : decode zxm286.2.1 17 = .ok (.iand, 1) := by decide +kernel
theorem zd286_18 : decode zxm286.2.1 18 = .ok (.ifCond .ne 5, 3) := by decide +kernel
theorem zd286_21 : decode zxm286.2.1 21 = .ok (.iconst 0, 1) := by decide +kernel
theorem zd286_22 : decode zxm286.2.1 22 = .ok (.ireturn, 1) := by decide +kernel
theorem zd286_23 : decode zxm286.2.1 23 = .ok (.iinc 2 1, 3) := by decide +kernel
theorem zd286_26 : decode zxm286.2.1 26 = .ok (.goto (-24), 3) := by decide +kernel
theorem zd286_29 : decode zxm286.2.1 29 = .ok (.iconst 1, 1) := by decide +kernel
theorem zd286_30 : decode zxm286.2.1 30 = .ok (.ireturn, 1) := by decide +kernel
theorem zt_M_tellsApart {x1 : Int} {f0 : Int} {g0 : (Int → Int)} {o : Int} (h : zf_M_tellsApart x1 f0 g0 = some o) : zv_Fn z_TB z_cl z_KX zy_M_tellsApart zxm286 (0, 0) [.inr 0, .inl x1] [.inl f0] [g0] (some o) [.inl f0] [g0] := zv_meth (K := (z_KF13, z_KC13, z_KL13, z_KT13, [], [], [], none)) (FT := z_FT) (MT := z_MT) (n := 2) zxp286 (z_ks13 _ (fun _ h => List.mem_cons_of_mem _ h) _ _ _ _ (fun j r h _ => by cases h)) (fun _ _ => zs_KX_p) zyw_M_tellsApart (fun va F G h => by obtain ⟨rfl, _⟩ := h; rfl) (fun va F G h => by obtain ⟨rfl, _⟩ := h; rfl) rfl fun good va F G hB hret hvret hP => by
  obtain ⟨rfl, rfl, rfl⟩ := hP
  have l0 : ∀ (n : Nat) (x1 : Int) (x2 : Int) (q : ((Unit) ⊕ (Int))), zf_M_tellsApart_l0 x1 f0 g0 n x2 = some q → (Sum.elim (fun e : Unit => good 29 [.inr 1000, .inr 1000, .inr 1000] [] [.inl f0] [g0]) (fun w : Int => w = o) q) → good 2 [.inr 0, .inl x1, .inl x2] [] [.inl f0] [g0] := by
    intro n
    induction n with
    | zero => intro x1 x2 q h; exact absurd (show none = some q from h) (fun h => by cases h)
    | succ n ih =>
      intro x1 x2 q h hK
      replace h : zf_M_tellsApart_l0_b x1 f0 g0 (zf_M_tellsApart_l0 x1 f0 g0 n) x2 = some q := h
      unfold zf_M_tellsApart_l0_b at h
      refine zv_ild hB zd286_2 rfl rfl ?_
      refine zv_ald hB zd286_3 rfl rfl rfl ?_
      refine zv_getf hB zd286_4 rfl rfl (fun _ _ => ?_)
      refine zv_cge hB zd286_7 rfl (fun hc1 => ?_) (fun hc1 => ?_)
      · rw [if_neg (Int.not_lt.mpr hc1)] at h
        have hq := Option.some.inj h
        subst hq
        refine zv_wk hB (L' := [.inr 1000, .inr 1000, .inr 1000]) (F' := [.inl f0]) ⟨fun (h : zv_is (.inr 1000)) => (Nat.lt_irrefl 1000 h).elim, fun (h : zv_is (.inr 1000)) => (Nat.lt_irrefl 1000 h).elim, fun (h : zv_is (.inr 1000)) => (Nat.lt_irrefl 1000 h).elim, trivial⟩ ⟨fun _ => rfl, trivial⟩ ?_
        exact hK
      · rw [if_pos hc1] at h
        refine zv_ald hB zd286_10 rfl rfl rfl ?_
        refine zv_getr hB zd286_11 rfl ?_
        refine zv_ild hB zd286_14 rfl rfl ?_
        obtain ⟨c2, h⟩ := zi_if h
        refine zv_iald hB zd286_15 rfl rfl (zi_ix_ok c2).1 (zi_ix_ok c2).2 (fun _ _ => ?_)
        refine zv_ild hB zd286_16 rfl rfl ?_
        refine zv_andw hB zd286_17 ?_
        refine zv_zne hB zd286_18 rfl (fun hc3 => ?_) (fun hc3 => ?_)
        · rw [if_neg hc3] at h
          refine zv_iincw hB zd286_23 rfl rfl ?_
          refine zv_goto hB zd286_26 rfl ?_
          exact ih _ _ q h hK
        · rw [if_pos hc3] at h
          refine zv_con hB zd286_21 rfl ?_
          have hw : 0 = o := zi_rk (Option.some.inj h) hK
          subst hw
          exact hret _ _ _ _ _ zd286_22 (by constructor <;> decide) ⟨rfl, rfl, rfl⟩
  unfold zf_M_tellsApart at h
  refine zv_con hB zd286_0 rfl ?_
  refine zv_ist hB zd286_1 rfl rfl rfl ?_
  obtain ⟨q4, hq4, h⟩ := zi_bind h
  refine l0 _ _ _ q4 hq4 ?_
  rcases q4 with e5 | w6
  · replace h := zi_sl h
    show good 29 [.inr 1000, .inr 1000, .inr 1000] [] [.inl f0] [g0]
    refine zv_con hB zd286_29 rfl ?_
    have hw := Option.some.inj h
    subst hw
    exact hret _ _ _ _ _ zd286_30 (by constructor <;> decide) ⟨rfl, rfl, rfl⟩
  · exact Option.some.inj h
/-! M_leastOf (I)I -/
-- names: 0 StarTalesModel('arg', 0), 1 (0, 422)(0, 12, 0), 2 (0, 28)(0, 12, 47)
-- fields: f0 = 0.unlikeMany_; arrays: g0 = 1, g1 = 2; out: [('ret', None)]
abbrev zy_M_leastOf : zNL := (3, [(0, 12)], [(0, 12, 48, 0)], [(0, 12, 0, 1), (0, 12, 47, 2)], [(1, 0, 422, 0), (2, 0, 28, 1)])
theorem zyw_M_leastOf : zv_wf zy_M_leastOf = true := by decide +kernel
theorem zye_M_leastOf : zv_ek2 zy_M_leastOf = true := by decide +kernel
def zf_M_leastOf_l0_b (f0 : Int) (g0 : (Int → Int)) (g1 : (Int → Int)) (rec : Int → Option (((Unit) ⊕ (Int)))) (x2 : Int) : Option (((Unit) ⊕ (Int))) := if x2 < 16777216 then (if (zi_and x2 (zi_xor (g0 126) (-1))) = 0 then ((zf_M_tellsApart x2 f0 g1).bind fun r5 => (if r5 = 0 then (cond (zi_ne (zi_and x2 (zi_w (-x2)))) (zi_let (zi_or (zi_w (x2 + (zi_and x2 (zi_w (-x2))))) (zi_shr (zi_div (zi_xor x2 (zi_w (x2 + (zi_and x2 (zi_w (-x2)))))) (zi_and x2 (zi_w (-x2)))) 2)) fun v8 => (rec v8)) none) else (some (.inr x2)))) else (cond (zi_ne (zi_and x2 (zi_w (-x2)))) (zi_let (zi_or (zi_w (x2 + (zi_and x2 (zi_w (-x2))))) (zi_shr (zi_div (zi_xor x2 (zi_w (x2 + (zi_and x2 (zi_w (-x2)))))) (zi_and x2 (zi_w (-x2)))) 2)) fun v4 => (rec v4)) none)) else (some (.inl ()))
def zf_M_leastOf_l0 (f0 : Int) (g0 : (Int → Int)) (g1 : (Int → Int)) : Nat → Int → Option (((Unit) ⊕ (Int)))
  | 0, _ => none
  | n + 1, x2 => zf_M_leastOf_l0_b f0 g0 g1 (zf_M_leastOf_l0 f0 g0 g1 n) x2
def zf_M_leastOf (x1 : Int) (f0 : Int) (g0 : (Int → Int)) (g1 : (Int → Int)) : Option (Int) := (zf_M_leastOf_l0 f0 g0 g1 zi_fu (zi_w ((zi_shl 1 x1) - 1))).bind fun q9 => Sum.elim (fun e10 => (some (-1))) (fun w11 => some w11) q9
theorem zd285_0 : decode zxm285.2.1 0 = .ok (.iconst 1, 1) := by decide +kernel
theorem zd285_1 : decode zxm285.2.1 1 = .ok (.iload_n 1, 1) := by decide +kernel
theorem zd285_2 : decode zxm285.2.1 2 = .ok (.ishl, 1) := by decide +kernel
theorem zd285_3 : decode zxm285.2.1 3 = .ok (.iconst 1, 1) := by decide +kernel
theorem zd285_4 : decode zxm285.2.1 4 = .ok (.isub, 1) := by decide +kernel
theorem zd285_5 : decode zxm285.2.1 5 = .ok (.istore_n 2, 1) := by decide +kernel
theorem zd285_6 : decode zxm285.2.1 6 = .ok (.iload_n 2, 1) := by decide +kernel
theorem zd285_7 : decode zxm285.2.1 7 = .ok (.ldc_w 398, 3) := by decide +kernel
theorem zd285_10 : decode zxm285.2.1 10 = .ok (.if_icmp .ge 52, 3) := by decide +kernel
theorem zd285_13 : decode zxm285.2.1 13 = .ok (.iload_n 2, 1) := by decide +kernel
theorem zd285_14 : decode zxm285.2.1 14 = .ok (.aload_n 0, 1) := by decide +kernel
theorem zd285_15 : decode zxm285.2.1 15 = .ok (.getfield 7, 3) := by decide +kernel
theorem zd285_18 : decode zxm285.2.1 18 = .ok (.bipush 126, 2) := by decide +kernel
theorem zd285_20 : decode zxm285.2.1 20 = .ok (.iaload, 1) := by decide +kernel
theorem zd285_21 : decode zxm285.2.1 21 = .ok (.iconst (-1), 1) := by decide +kernel
theorem zd285_22 : decode zxm285.2.1 22 = .ok (.ixor, 1) := by decide +kernel
theorem zd285_23 : decode zxm285.2.1 23 = .ok (.iand, 1) := by decide +kernel
theorem zd285_24 : decode zxm285.2.1 24 = .ok (.ifCond .ne 13, 3) := by decide +kernel
theorem zd285_27 : decode zxm285.2.1 27 = .ok (.aload_n 0, 1) := by decide +kernel
theorem zd285_28 : decode zxm285.2.1 28 = .ok (.iload_n 2, 1) := by decide +kernel
theorem zd285_29 : decode zxm285.2.1 29 = .ok (.invokevirtual 399, 3) := by decide +kernel
theorem zd285_32 : decode zxm285.2.1 32 = .ok (.ifCond .eq 5, 3) := by decide +kernel
theorem zd285_35 : decode zxm285.2.1 35 = .ok (.iload_n 2, 1) := by decide +kernel
theorem zd285_36 : decode zxm285.2.1 36 = .ok (.ireturn, 1) := by decide +kernel
theorem zd285_37 : decode zxm285.2.1 37 = .ok (.iload_n 2, 1) := by decide +kernel
theorem zd285_38 : decode zxm285.2.1 38 = .ok (.iload_n 2, 1) := by decide +kernel
theorem zd285_39 : decode zxm285.2.1 39 = .ok (.ineg, 1) := by decide +kernel
theorem zd285_40 : decode zxm285.2.1 40 = .ok (.iand, 1) := by decide +kernel
theorem zd285_41 : decode zxm285.2.1 41 = .ok (.istore_n 3, 1) := by decide +kernel
theorem zd285_42 : decode zxm285.2.1 42 = .ok (.iload_n 2, 1) := by decide +kernel
theorem zd285_43 : decode zxm285.2.1 43 = .ok (.iload_n 3, 1) := by decide +kernel
theorem zd285_44 : decode zxm285.2.1 44 = .ok (.iadd, 1) := by decide +kernel
theorem zd285_45 : decode zxm285.2.1 45 = .ok (.istore 4, 2) := by decide +kernel
theorem zd285_47 : decode zxm285.2.1 47 = .ok (.iload 4, 2) := by decide +kernel
theorem zd285_49 : decode zxm285.2.1 49 = .ok (.iload_n 2, 1) := by decide +kernel
theorem zd285_50 : decode zxm285.2.1 50 = .ok (.iload 4, 2) := by decide +kernel
theorem zd285_52 : decode zxm285.2.1 52 = .ok (.ixor, 1) := by decide +kernel
theorem zd285_53 : decode zxm285.2.1 53 = .ok (.iload_n 3, 1) := by decide +kernel
theorem zd285_54 : decode zxm285.2.1 54 = .ok (.idiv, 1) := by decide +kernel
theorem zd285_55 : decode zxm285.2.1 55 = .ok (.iconst 2, 1) := by decide +kernel
theorem zd285_56 : decode zxm285.2.1 56 = .ok (.ishr, 1) := by decide +kernel
theorem zd285_57 : decode zxm285.2.1 57 = .ok (.ior, 1) := by decide +kernel
theorem zd285_58 : decode zxm285.2.1 58 = .ok (.istore_n 2, 1) := by decide +kernel
theorem zd285_59 : decode zxm285.2.1 59 = .ok (.goto (-53), 3) := by decide +kernel
theorem zd285_62 : decode zxm285.2.1 62 = .ok (.iconst (-1), 1) := by decide +kernel
theorem zd285_63 : decode zxm285.2.1 63 = .ok (.ireturn, 1) := by decide +kernel
theorem zt_M_leastOf {x1 : Int} {f0 : Int} {g0 : (Int → Int)} {g1 : (Int → Int)} {o : Int} (h : zf_M_leastOf x1 f0 g0 g1 = some o) : zv_Fn z_TB z_cl z_KX zy_M_leastOf zxm285 (1, 60) [.inr 0, .inl x1] [.inl f0] [g0, g1] (some o) [.inl f0] [g0, g1] := zv_meth (K := (z_KF13, z_KC13, z_KL13, z_KT13, [], [], [], none)) (FT := z_FT) (MT := z_MT) (n := 2) zxp285 (z_ks13 _ (fun _ h => List.mem_cons_of_mem _ h) _ _ _ _ (fun j r h _ => by cases h)) (fun _ _ => zs_KX_p) zyw_M_leastOf (fun va F G h => by obtain ⟨rfl, _⟩ := h; rfl) (fun va F G h => by obtain ⟨rfl, _⟩ := h; rfl) rfl fun good va F G hB hret hvret hP => by
  obtain ⟨rfl, rfl, rfl⟩ := hP
  have l0 : ∀ (n : Nat) (x2 : Int) (q : ((Unit) ⊕ (Int))), zf_M_leastOf_l0 f0 g0 g1 n x2 = some q → (Sum.elim (fun e : Unit => good 62 [.inr 1000, .inr 1000, .inr 1000, .inr 1000, .inr 1000] [] [.inl f0] [g0, g1]) (fun w : Int => w = o) q) → good 6 [.inr 0, .inr 1000, .inl x2, .inr 1000, .inr 1000] [] [.inl f0] [g0, g1] := by
    intro n
    induction n with
    | zero => intro x2 q h; exact absurd (show none = some q from h) (fun h => by cases h)
    | succ n ih =>
      intro x2 q h hK
      replace h : zf_M_leastOf_l0_b f0 g0 g1 (zf_M_leastOf_l0 f0 g0 g1 n) x2 = some q := h
      unfold zf_M_leastOf_l0_b at h
      refine zv_ild hB zd285_6 rfl rfl ?_
      refine zv_con (n := 16777216) hB zd285_7 (by decide +kernel) ?_
      refine zv_cge hB zd285_10 rfl (fun hc1 => ?_) (fun hc1 => ?_)
      · rw [if_neg (Int.not_lt.mpr hc1)] at h
        have hq := Option.some.inj h
        subst hq
        refine zv_wk hB (L' := [.inr 1000, .inr 1000, .inr 1000, .inr 1000, .inr 1000]) (F' := [.inl f0]) ⟨fun (h : zv_is (.inr 1000)) => (Nat.lt_irrefl 1000 h).elim, fun (h : zv_is (.inr 1000)) => (Nat.lt_irrefl 1000 h).elim, fun (h : zv_is (.inr 1000)) => (Nat.lt_irrefl 1000 h).elim, fun (h : zv_is (.inr 1000)) => (Nat.lt_irrefl 1000 h).elim, fun (h : zv_is (.inr 1000)) => (Nat.lt_irrefl 1000 h).elim, trivial⟩ ⟨fun _ => rfl, trivial⟩ ?_
        exact hK
      · rw [if_pos hc1] at h
        refine zv_ild hB zd285_13 rfl rfl ?_
        refine zv_ald hB zd285_14 rfl rfl rfl ?_
        refine zv_getr hB zd285_15 rfl ?_
        refine zv_con hB zd285_18 rfl ?_
        refine zv_iald hB zd285_20 rfl rfl (by decide) (by decide) (fun _ _ => ?_)
        refine zv_con hB zd285_21 rfl ?_
        refine zv_xorw hB zd285_22 ?_
        refine zv_andw hB zd285_23 ?_
        refine zv_zne hB zd285_24 rfl (fun hc2 => ?_) (fun hc2 => ?_)
        · rw [if_neg hc2] at h
          refine zv_ild hB zd285_37 rfl rfl ?_
          refine zv_ild hB zd285_38 rfl rfl ?_
          refine zv_negw hB zd285_39 ?_
          refine zv_andw hB zd285_40 ?_
          refine zv_ist hB zd285_41 rfl rfl rfl ?_
          refine zv_ild hB zd285_42 rfl rfl ?_
          refine zv_ild hB zd285_43 rfl rfl ?_
          refine zv_addw hB zd285_44 ?_
          refine zv_ist hB zd285_45 rfl rfl rfl ?_
          refine zv_ild hB zd285_47 rfl rfl ?_
          refine zv_ild hB zd285_49 rfl rfl ?_
          refine zv_ild hB zd285_50 rfl rfl ?_
          refine zv_xorw hB zd285_52 ?_
          refine zv_ild hB zd285_53 rfl rfl ?_
          obtain ⟨c3, h⟩ := zi_if h
          refine zv_divw hB zd285_54 (zi_ne_ok c3) ?_
          refine zv_con hB zd285_55 rfl ?_
          refine zv_shrw hB zd285_56 ?_
          refine zv_orw hB zd285_57 ?_
          refine zv_ist hB zd285_58 rfl rfl rfl ?_
          obtain ⟨v4, hv4, h⟩ := zi_letp h
          rw [hv4]
          refine zv_goto hB zd285_59 rfl ?_
          refine zv_wk hB (L' := [.inr 0, .inr 1000, .inl v4, .inr 1000, .inr 1000]) (F' := [.inl f0]) ⟨fun _ => rfl, fun (h : zv_is (.inr 1000)) => (Nat.lt_irrefl 1000 h).elim, fun _ => rfl, fun (h : zv_is (.inr 1000)) => (Nat.lt_irrefl 1000 h).elim, fun (h : zv_is (.inr 1000)) => (Nat.lt_irrefl 1000 h).elim, trivial⟩ ⟨fun _ => rfl, trivial⟩ ?_
          exact ih _ q h hK
        · rw [if_pos hc2] at h
          refine zv_ald hB zd285_27 rfl rfl rfl ?_
          refine zv_ild hB zd285_28 rfl rfl ?_
          obtain ⟨r5, hr5, h⟩ := zi_bind h
          refine zv_cv hB (zv_emq (va2 := [.inr 0, .inl x2]) (F := [.inl f0]) (F' := [.inl f0]) (G := [g0, g1]) (G' := [g0, g1]) (ρ := [0, 2]) (φ := [0]) (ψ := [1]) [some 0] [none, some 0] zyw_M_tellsApart zyw_M_leastOf zye_M_leastOf (by decide +kernel) (zt_M_tellsApart hr5) ⟨⟨_, rfl, fun _ => rfl⟩, trivial⟩ ⟨rfl, trivial⟩ rfl rfl rfl rfl rfl rfl rfl) zd285_29 zxt286 rfl (by decide) (by decide) rfl ?_
          refine zv_zeq hB zd285_32 rfl (fun hc6 => ?_) (fun hc6 => ?_)
          · rw [if_pos hc6] at h
            refine zv_ild hB zd285_37 rfl rfl ?_
            refine zv_ild hB zd285_38 rfl rfl ?_
            refine zv_negw hB zd285_39 ?_
            refine zv_andw hB zd285_40 ?_
            refine zv_ist hB zd285_41 rfl rfl rfl ?_
            refine zv_ild hB zd285_42 rfl rfl ?_
            refine zv_ild hB zd285_43 rfl rfl ?_
            refine zv_addw hB zd285_44 ?_
            refine zv_ist hB zd285_45 rfl rfl rfl ?_
            refine zv_ild hB zd285_47 rfl rfl ?_
            refine zv_ild hB zd285_49 rfl rfl ?_
            refine zv_ild hB zd285_50 rfl rfl ?_
            refine zv_xorw hB zd285_52 ?_
            refine zv_ild hB zd285_53 rfl rfl ?_
            obtain ⟨c7, h⟩ := zi_if h
            refine zv_divw hB zd285_54 (zi_ne_ok c7) ?_
            refine zv_con hB zd285_55 rfl ?_
            refine zv_shrw hB zd285_56 ?_
            refine zv_orw hB zd285_57 ?_
            refine zv_ist hB zd285_58 rfl rfl rfl ?_
            obtain ⟨v8, hv8, h⟩ := zi_letp h
            rw [hv8]
            refine zv_goto hB zd285_59 rfl ?_
            refine zv_wk hB (L' := [.inr 0, .inr 1000, .inl v8, .inr 1000, .inr 1000]) (F' := [.inl f0]) ⟨fun _ => rfl, fun (h : zv_is (.inr 1000)) => (Nat.lt_irrefl 1000 h).elim, fun _ => rfl, fun (h : zv_is (.inr 1000)) => (Nat.lt_irrefl 1000 h).elim, fun (h : zv_is (.inr 1000)) => (Nat.lt_irrefl 1000 h).elim, trivial⟩ ⟨fun _ => rfl, trivial⟩ ?_
            exact ih _ q h hK
          · rw [if_neg hc6] at h
            refine zv_ild hB zd285_35 rfl rfl ?_
            have hw : x2 = o := zi_rk (Option.some.inj h) hK
            subst hw
            exact hret _ _ _ _ _ zd285_36 (by trivial) ⟨rfl, rfl, rfl⟩
  unfold zf_M_leastOf at h
  refine zv_con hB zd285_0 rfl ?_
  refine zv_ild hB zd285_1 rfl rfl ?_
  refine zv_shlw hB zd285_2 ?_
  refine zv_con hB zd285_3 rfl ?_
  refine zv_subw hB zd285_4 ?_
  refine zv_ist hB zd285_5 rfl rfl rfl ?_
  obtain ⟨q9, hq9, h⟩ := zi_bind h
  refine zv_wk hB (L' := [.inr 0, .inr 1000, .inl (zi_w ((zi_shl 1 x1) - 1)), .inr 1000, .inr 1000]) (F' := [.inl f0]) ⟨fun _ => rfl, fun (h : zv_is (.inr 1000)) => (Nat.lt_irrefl 1000 h).elim, fun _ => rfl, fun (h : zv_is (.inr 1000)) => (Nat.lt_irrefl 1000 h).elim, fun (h : zv_is (.inr 1000)) => (Nat.lt_irrefl 1000 h).elim, trivial⟩ ⟨fun _ => rfl, trivial⟩ ?_
  refine l0 _ _ q9 hq9 ?_
  rcases q9 with e10 | w11
  · replace h := zi_sl h
    show good 62 [.inr 1000, .inr 1000, .inr 1000, .inr 1000, .inr 1000] [] [.inl f0] [g0, g1]
    refine zv_con hB zd285_62 rfl ?_
    have hw := Option.some.inj h
    subst hw
    exact hret _ _ _ _ _ zd285_63 (by trivial) ⟨rfl, rfl, rfl⟩
  · exact Option.some.inj h
/-! M_named (II)I -/
-- names: 0 StarTalesModel('arg', 0), 1 (1, 220)(0, 12, 3), 2 (0, 8)(0, 12, 46), 3 (0, 28)(0, 12, 47), 4 (0, 422)(0, 12, 0), 5 (0, 14)(0, 12, 21), 6 (0, 13)(0, 12, 26), 7 (0, 14)(0, 12, 23), 8 (0, 14)(0, 12, 24), 9 (0, 220)(0, 12, 20), 10 (0, 220)(0, 12, 25)
-- fields: f0 = 0.taped_, f1 = 0.unlikeMany_, f2 = 0.clauses_; arrays: g0 = 1, g1 = 2, g2 = 3, g3 = 4, g4 = 5, g5 = 6, g6 = 7, g7 = 8, g8 = 9, g9 = 10; out: [('ret', None), ('f', 0), ('f', 1), ('g', 1), ('g', 2), ('g', 5), ('g', 9)]
abbrev zy_M_named : zNL := (11, [(0, 12)], [(0, 12, 4, 0), (0, 12, 48, 1), (0, 12, 13, 2)], [(0, 12, 3, 1), (0, 12, 46, 2), (0, 12, 47, 3), (0, 12, 0, 4), (0, 12, 21, 5), (0, 12, 26, 6), (0, 12, 23, 7), (0, 12, 24, 8), (0, 12, 20, 9), (0, 12, 25, 10)], [(1, 1, 220, 0), (2, 0, 8, 1), (3, 0, 28, 2), (4, 0, 422, 3), (5, 0, 14, 4), (6, 0, 13, 5), (7, 0, 14, 6), (8, 0, 14, 7), (9, 0, 220, 8), (10, 0, 220, 9)])
theorem zyw_M_named : zv_wf zy_M_named = true := by decide +kernel
theorem zye_M_named : zv_ek2 zy_M_named = true := by decide +kernel
def zf_M_named_l1_b (x1 : Int) (x3 : Int) (f0 : Int) (f2 : Int) (g1 : (Int → Int)) (g3 : (Int → Int)) (g4 : (Int → Int)) (g6 : (Int → Int)) (g7 : (Int → Int)) (g8 : (Int → Int)) (rec : Int → Int → (Int → Int) → (Int → Int) → (Int → Int) → Option (((Int × (Int → Int) × (Int → Int) × (Int → Int)) ⊕ (Int × Int × Int × (Int → Int) × (Int → Int) × (Int → Int) × (Int → Int))))) (x4 : Int) (f1 : Int) (g2 : (Int → Int)) (g5 : (Int → Int)) (g9 : (Int → Int)) : Option (((Int × (Int → Int) × (Int → Int) × (Int → Int)) ⊕ (Int × Int × Int × (Int → Int) × (Int → Int) × (Int → Int) × (Int → Int)))) := if x4 < x1 then (cond (zi_ix x3 8) ((zf_M_seenFrom (g1 x3) f2 g3 g4 g5 g6 g7 g8 g9).bind fun r11 => (cond (zi_ix x4 8) ((zf_M_seenFrom (g1 x4) f2 g3 g4 r11.2.1 g6 g7 g8 r11.2.2).bind fun r13 => (cond (zi_ix f1 28) (if ((zv_up g2 f1 (zi_xor r11.1 r13.1)) f1) = 0 then (some (.inr ((-2), f0, f1, g1, (zv_up g2 f1 (zi_xor r11.1 r13.1)), r13.2.1, r13.2.2))) else (rec (zi_w (x4 + 1)) (zi_w (f1 + 1)) (zv_up g2 f1 (zi_xor r11.1 r13.1)) r13.2.1 r13.2.2)) none)) none)) none) else (some (.inl (f1, g2, g5, g9)))
def zf_M_named_l1 (x1 : Int) (x3 : Int) (f0 : Int) (f2 : Int) (g1 : (Int → Int)) (g3 : (Int → Int)) (g4 : (Int → Int)) (g6 : (Int → Int)) (g7 : (Int → Int)) (g8 : (Int → Int)) : Nat → Int → Int → (Int → Int) → (Int → Int) → (Int → Int) → Option (((Int × (Int → Int) × (Int → Int) × (Int → Int)) ⊕ (Int × Int × Int × (Int → Int) × (Int → Int) × (Int → Int) × (Int → Int))))
  | 0, _, _, _, _, _ => none
  | n + 1, x4, f1, g2, g5, g9 => zf_M_named_l1_b x1 x3 f0 f2 g1 g3 g4 g6 g7 g8 (zf_M_named_l1 x1 x3 f0 f2 g1 g3 g4 g6 g7 g8 n) x4 f1 g2 g5 g9
def zf_M_named_l0_b (x1 : Int) (f0 : Int) (f2 : Int) (g1 : (Int → Int)) (g3 : (Int → Int)) (g4 : (Int → Int)) (g6 : (Int → Int)) (g7 : (Int → Int)) (g8 : (Int → Int)) (rec : Int → Int → (Int → Int) → (Int → Int) → (Int → Int) → Option (((Int × (Int → Int) × (Int → Int) × (Int → Int)) ⊕ (Int × Int × Int × (Int → Int) × (Int → Int) × (Int → Int) × (Int → Int))))) (x3 : Int) (f1 : Int) (g2 : (Int → Int)) (g5 : (Int → Int)) (g9 : (Int → Int)) : Option (((Int × (Int → Int) × (Int → Int) × (Int → Int)) ⊕ (Int × Int × Int × (Int → Int) × (Int → Int) × (Int → Int) × (Int → Int)))) := if x3 < x1 then ((zf_M_named_l1 x1 x3 f0 f2 g1 g3 g4 g6 g7 g8 zi_fu (zi_w (x3 + 1)) f1 g2 g5 g9).bind fun q16 => Sum.elim (fun e17 => (rec (zi_w (x3 + 1)) e17.1 e17.2.1 e17.2.2.1 e17.2.2.2)) (fun w18 => some (.inr w18)) q16) else (some (.inl (f1, g2, g5, g9)))
def zf_M_named_l0 (x1 : Int) (f0 : Int) (f2 : Int) (g1 : (Int → Int)) (g3 : (Int → Int)) (g4 : (Int → Int)) (g6 : (Int → Int)) (g7 : (Int → Int)) (g8 : (Int → Int)) : Nat → Int → Int → (Int → Int) → (Int → Int) → (Int → Int) → Option (((Int × (Int → Int) × (Int → Int) × (Int → Int)) ⊕ (Int × Int × Int × (Int → Int) × (Int → Int) × (Int → Int) × (Int → Int))))
  | 0, _, _, _, _, _ => none
  | n + 1, x3, f1, g2, g5, g9 => zf_M_named_l0_b x1 f0 f2 g1 g3 g4 g6 g7 g8 (zf_M_named_l0 x1 f0 f2 g1 g3 g4 g6 g7 g8 n) x3 f1 g2 g5 g9
def zf_M_named_l2_b (x1 : Int) (x2 : Int) (f0 : Int) (f1 : Int) (g1 : (Int → Int)) (g2 : (Int → Int)) (g3 : (Int → Int)) (g5 : (Int → Int)) (g9 : (Int → Int)) (rec : Int → Option (((Unit) ⊕ (Int × Int × Int × (Int → Int) × (Int → Int) × (Int → Int) × (Int → Int))))) (x3 : Int) : Option (((Unit) ⊕ (Int × Int × Int × (Int → Int) × (Int → Int) × (Int → Int) × (Int → Int)))) := if x3 < x1 then ((zf_M_leastOf x3 f1 g3 g2).bind fun r22 => (if r22 = (-1) then (rec (zi_w (x3 + 1))) else (if x2 = 0 then (some (.inr (x3, f0, f1, g1, g2, g5, g9))) else (some (.inr (r22, f0, f1, g1, g2, g5, g9)))))) else (some (.inl ()))
def zf_M_named_l2 (x1 : Int) (x2 : Int) (f0 : Int) (f1 : Int) (g1 : (Int → Int)) (g2 : (Int → Int)) (g3 : (Int → Int)) (g5 : (Int → Int)) (g9 : (Int → Int)) : Nat → Int → Option (((Unit) ⊕ (Int × Int × Int × (Int → Int) × (Int → Int) × (Int → Int) × (Int → Int))))
  | 0, _ => none
  | n + 1, x3 => zf_M_named_l2_b x1 x2 f0 f1 g1 g2 g3 g5 g9 (zf_M_named_l2 x1 x2 f0 f1 g1 g2 g3 g5 g9 n) x3
def zf_M_named (x1 : Int) (x2 : Int) (f0 : Int) (f1 : Int) (f2 : Int) (g0 : (Int → Int)) (g1 : (Int → Int)) (g2 : (Int → Int)) (g3 : (Int → Int)) (g4 : (Int → Int)) (g5 : (Int → Int)) (g6 : (Int → Int)) (g7 : (Int → Int)) (g8 : (Int → Int)) (g9 : (Int → Int)) : Option (Int × Int × Int × (Int → Int) × (Int → Int) × (Int → Int) × (Int → Int)) := (zf_M_in x1 2 8).bind fun r1 => (if r1 = 0 then (some ((-1), f0, f1, g1, g2, g5, g9)) else ((zf_M_in x2 0 1).bind fun r3 => (if r3 = 0 then (some ((-1), f0, f1, g1, g2, g5, g9)) else (if f0 < (zi_w (2 * x1)) then (some ((-1), f0, f1, g1, g2, g5, g9)) else ((zf_M_takesPlaces x1 g0 g1).bind fun r6 => (if r6.1 = 0 then (some ((-2), 0, f1, r6.2, g2, g5, g9)) else ((zf_M_named_l0 x1 0 f2 r6.2 g3 g4 g6 g7 g8 zi_fu 0 0 g2 g5 g9).bind fun q19 => Sum.elim (fun e20 => ((zf_M_named_l2 x1 x2 0 e20.1 r6.2 e20.2.1 g3 e20.2.2.1 e20.2.2.2 zi_fu 1).bind fun q25 => Sum.elim (fun e26 => (some ((-2), 0, e20.1, r6.2, e20.2.1, e20.2.2.1, e20.2.2.2))) (fun w27 => some w27) q25)) (fun w28 => some w28) q19)))))))
theorem zd283_0 : decode zxm283.2.1 0 = .ok (.iload_n 1, 1) := by decide +kernel
theorem zd283_1 : decode zxm283.2.1 1 = .ok (.iconst 2, 1) := by decide +kernel
theorem zd283_2 : decode zxm283.2.1 2 = .ok (.bipush 8, 2) := by decide +kernel
theorem zd283_4 : decode zxm283.2.1 4 = .ok (.invokestatic 150, 3) := by decide +kernel
theorem zd283_7 : decode zxm283.2.1 7 = .ok (.ifCond .eq 22, 3) := by decide +kernel
theorem zd283_10 : decode zxm283.2.1 10 = .ok (.iload_n 2, 1) := by decide +kernel
theorem zd283_11 : decode zxm283.2.1 11 = .ok (.iconst 0, 1) := by decide +kernel
theorem zd283_12 : decode zxm283.2.1 12 = .ok (.iconst 1, 1) := by decide +kernel
theorem zd283_13 : decode zxm283.2.1 13 = .ok (.invokestatic 150, 3) := by decide +kernel
theorem zd283_16 : decode zxm283.2.1 16 = .ok (.ifCond .eq 13, 3) := by decide +kernel
theorem zd283_19 : decode zxm283.2.1 19 = .ok (.iconst 2, 1) := by decide +kernel
theorem zd283_20 : decode zxm283.2.1 20 = .ok (.iload_n 1, 1) := by decide +kernel
theorem zd283_21 : decode zxm283.2.1 21 = .ok (.imul, 1) := by decide +kernel
theorem zd283_22 : decode zxm283.2.1 22 = .ok (.aload_n 0, 1) := by decide +kernel
theorem zd283_23 : decode zxm283.2.1 23 = .ok (.getfield 168, 3) := by decide +kernel
theorem zd283_26 : decode zxm283.2.1 26 = .ok (.if_icmp .le 5, 3) := by decide +kernel
theorem zd283_29 : decode zxm283.2.1 29 = .ok (.iconst (-1), 1) := by decide +kernel
theorem zd283_30 : decode zxm283.2.1 30 = .ok (.ireturn, 1) := by decide +kernel
theorem zd283_31 : decode zxm283.2.1 31 = .ok (.aload_n 0, 1) := by decide +kernel
theorem zd283_32 : decode zxm283.2.1 32 = .ok (.iconst 0, 1) := by decide +kernel
theorem zd283_33 : decode zxm283.2.1 33 = .ok (.putfield 168, 3) := by decide +kernel
theorem zd283_36 : decode zxm283.2.1 36 = .ok (.aload_n 0, 1) := by decide +kernel
theorem zd283_37 : decode zxm283.2.1 37 = .ok (.iload_n 1, 1) := by decide +kernel
theorem zd283_38 : decode zxm283.2.1 38 = .ok (.invokevirtual 402, 3) := by decide +kernel
theorem zd283_41 : decode zxm283.2.1 41 = .ok (.ifCond .ne 6, 3) := by decide +kernel
theorem zd283_44 : decode zxm283.2.1 44 = .ok (.bipush (-2), 2) := by decide +kernel
theorem zd283_46 : decode zxm283.2.1 46 = .ok (.ireturn, 1) := by decide +kernel
theorem zd283_47 : decode zxm283.2.1 47 = .ok (.aload_n 0, 1) := by decide +kernel
theorem zd283_48 : decode zxm283.2.1 48 = .ok (.iconst 0, 1) := by decide +kernel
theorem zd283_49 : decode zxm283.2.1 49 = .ok (.putfield 395, 3) := by decide +kernel
theorem zd283_52 : decode zxm283.2.1 52 = .ok (.iconst 0, 1) := by decide +kernel
theorem zd283_53 : decode zxm283.2.1 53 = .ok (.istore_n 3, 1) := by decide +kernel
theorem zd283_54 : decode zxm283.2.1 54 = .ok (.iload_n 3, 1) := by decide +kernel
theorem zd283_55 : decode zxm283.2.1 55 = .ok (.iload_n 1, 1) := by decide +kernel
theorem zd283_56 : decode zxm283.2.1 56 = .ok (.if_icmp .ge 82, 3) := by decide +kernel
theorem zd283_59 : decode zxm283.2.1 59 = .ok (.iload_n 3, 1) := by decide +kernel
theorem zd283_60 : decode zxm283.2.1 60 = .ok (.iconst 1, 1) := by decide +kernel
theorem zd283_61 : decode zxm283.2.1 61 = .ok (.iadd, 1) := by decide +kernel
theorem zd283_62 : decode zxm283.2.1 62 = .ok (.istore 4, 2) := by decide +kernel
theorem zd283_64 : decode zxm283.2.1 64 = .ok (.iload 4, 2) := by decide +kernel
theorem zd283_66 : decode zxm283.2.1 66 = .ok (.iload_n 1, 1) := by decide +kernel
theorem zd283_67 : decode zxm283.2.1 67 = .ok (.if_icmp .ge 65, 3) := by decide +kernel
theorem zd283_70 : decode zxm283.2.1 70 = .ok (.aload_n 0, 1) := by decide +kernel
theorem zd283_71 : decode zxm283.2.1 71 = .ok (.getfield 101, 3) := by decide +kernel
theorem zd283_74 : decode zxm283.2.1 74 = .ok (.aload_n 0, 1) := by decide +kernel
theorem zd283_75 : decode zxm283.2.1 75 = .ok (.getfield 395, 3) := by decide +kernel
theorem zd283_78 : decode zxm283.2.1 78 = .ok (.aload_n 0, 1) := by decide +kernel
theorem zd283_79 : decode zxm283.2.1 79 = .ok (.aload_n 0, 1) := by decide +kernel
theorem zd283_80 : decode zxm283.2.1 80 = .ok (.getfield 98, 3) := by decide +kernel
theorem zd283_83 : decode zxm283.2.1 83 = .ok (.iload_n 3, 1) := by decide +kernel
theorem zd283_84 : decode zxm283.2.1 84 = .ok (.iaload, 1) := by decide +kernel
theorem zd283_85 : decode zxm283.2.1 85 = .ok (.invokevirtual 300, 3) := by decide +kernel
theorem zd283_88 : decode zxm283.2.1 88 = .ok (.aload_n 0, 1) := by decide +kernel
theorem zd283_89 : decode zxm283.2.1 89 = .ok (.aload_n 0, 1) := by decide +kernel
theorem zd283_90 : decode zxm283.2.1 90 = .ok (.getfield 98, 3) := by decide +kernel
theorem zd283_93 : decode zxm283.2.1 93 = .ok (.iload 4, 2) := by decide +kernel
theorem zd283_95 : decode zxm283.2.1 95 = .ok (.iaload, 1) := by decide +kernel
theorem zd283_96 : decode zxm283.2.1 96 = .ok (.invokevirtual 300, 3) := by decide +kernel
theorem zd283_99 : decode zxm283.2.1 99 = .ok (.ixor, 1) := by decide +kernel
theorem zd283_100 : decode zxm283.2.1 100 = .ok (.iastore, 1) := by decide +kernel
theorem zd283_101 : decode zxm283.2.1 101 = .ok (.aload_n 0, 1) := by decide +kernel
theorem zd283_102 : decode zxm283.2.1 102 = .ok (.getfield 101, 3) := by decide +kernel
theorem zd283_105 : decode zxm283.2.1 105 = .ok (.aload_n 0, 1) := by decide +kernel
theorem zd283_106 : decode zxm283.2.1 106 = .ok (.getfield 395, 3) := by decide +kernel
theorem zd283_109 : decode zxm283.2.1 109 = .ok (.iaload, 1) := by decide +kernel
theorem zd283_110 : decode zxm283.2.1 110 = .ok (.ifCond .ne 6, 3) := by decide +kernel
theorem zd283_113 : decode zxm283.2.1 113 = .ok (.bipush (-2), 2) := by decide +kernel
theorem zd283_115 : decode zxm283.2.1 115 = .ok (.ireturn, 1) := by decide +kernel
theorem zd283_116 : decode zxm283.2.1 116 = .ok (.aload_n 0, 1) := by decide +kernel
theorem zd283_117 : decode zxm283.2.1 117 = .ok (.aload_n 0, 1) := by decide +kernel
theorem zd283_118 : decode zxm283.2.1 118 = .ok (.getfield 395, 3) := by decide +kernel
theorem zd283_121 : decode zxm283.2.1 121 = .ok (.iconst 1, 1) := by decide +kernel
theorem zd283_122 : decode zxm283.2.1 122 = .ok (.iadd, 1) := by decide +kernel
theorem zd283_123 : decode zxm283.2.1 123 = .ok (.putfield 395, 3) := by decide +kernel
theorem zd283_126 : decode zxm283.2.1 126 = .ok (.iinc 4 1, 3) := by decide +kernel
theorem zd283_129 : decode zxm283.2.1 129 = .ok (.goto (-65), 3) := by decide +kernel
theorem zd283_132 : decode zxm283.2.1 132 = .ok (.iinc 3 1, 3) := by decide +kernel
theorem zd283_135 : decode zxm283.2.1 135 = .ok (.goto (-81), 3) := by decide +kernel
theorem zd283_138 : decode zxm283.2.1 138 = .ok (.iconst 1, 1) := by decide +kernel
theorem zd283_139 : decode zxm283.2.1 139 = .ok (.istore_n 3, 1) := by decide +kernel
theorem zd283_140 : decode zxm283.2.1 140 = .ok (.iload_n 3, 1) := by decide +kernel
theorem zd283_141 : decode zxm283.2.1 141 = .ok (.iload_n 1, 1) := by decide +kernel
theorem zd283_142 : decode zxm283.2.1 142 = .ok (.if_icmp .ge 33, 3) := by decide +kernel
theorem zd283_145 : decode zxm283.2.1 145 = .ok (.aload_n 0, 1) := by decide +kernel
theorem zd283_146 : decode zxm283.2.1 146 = .ok (.iload_n 3, 1) := by decide +kernel
theorem zd283_147 : decode zxm283.2.1 147 = .ok (.invokevirtual 405, 3) := by decide +kernel
theorem zd283_150 : decode zxm283.2.1 150 = .ok (.istore 4, 2) := by decide +kernel
theorem zd283_152 : decode zxm283.2.1 152 = .ok (.iload 4, 2) := by decide +kernel
theorem zd283_154 : decode zxm283.2.1 154 = .ok (.iconst (-1), 1) := by decide +kernel
theorem zd283_155 : decode zxm283.2.1 155 = .ok (.if_icmp .eq 14, 3) := by decide +kernel
theorem zd283_158 : decode zxm283.2.1 158 = .ok (.iload_n 2, 1) := by decide +kernel
theorem zd283_159 : decode zxm283.2.1 159 = .ok (.ifCond .ne 7, 3) := by decide +kernel
theorem zd283_162 : decode zxm283.2.1 162 = .ok (.iload_n 3, 1) := by decide +kernel
theorem zd283_163 : decode zxm283.2.1 163 = .ok (.goto 5, 3) := by decide +kernel
theorem zd283_166 : decode zxm283.2.1 166 = .ok (.iload 4, 2) := by decide +kernel
theorem zd283_168 : decode zxm283.2.1 168 = .ok (.ireturn, 1) := by decide +kernel
theorem zd283_169 : decode zxm283.2.1 169 = .ok (.iinc 3 1, 3) := by decide +kernel
theorem zd283_172 : decode zxm283.2.1 172 = .ok (.goto (-32), 3) := by decide +kernel
theorem zd283_175 : decode zxm283.2.1 175 = .ok (.bipush (-2), 2) := by decide +kernel
theorem zd283_177 : decode zxm283.2.1 177 = .ok (.ireturn, 1) := by decide +kernel
theorem zt_M_named {x1 : Int} {x2 : Int} {f0 : Int} {f1 : Int} {f2 : Int} {g0 : (Int → Int)} {g1 : (Int → Int)} {g2 : (Int → Int)} {g3 : (Int → Int)} {g4 : (Int → Int)} {g5 : (Int → Int)} {g6 : (Int → Int)} {g7 : (Int → Int)} {g8 : (Int → Int)} {g9 : (Int → Int)} {o : Int × Int × Int × (Int → Int) × (Int → Int) × (Int → Int) × (Int → Int)} (h : zf_M_named x1 x2 f0 f1 f2 g0 g1 g2 g3 g4 g5 g6 g7 g8 g9 = some o) : zv_Fn z_TB z_cl z_KX zy_M_named zxm283 (5, 300) [.inr 0, .inl x1, .inl x2] [.inl f0, .inl f1, .inl f2] [g0, g1, g2, g3, g4, g5, g6, g7, g8, g9] (some o.1) [.inl o.2.1, .inl o.2.2.1, .inl f2] [g0, o.2.2.2.1, o.2.2.2.2.1, g3, g4, o.2.2.2.2.2.1, g6, g7, g8, o.2.2.2.2.2.2] := zv_meth (K := (z_KF13, z_KC13, z_KL13, z_KT13, [], [], [], none)) (FT := z_FT) (MT := z_MT) (n := 3) zxp283 (z_ks13 _ (fun _ h => List.mem_cons_of_mem _ h) _ _ _ _ (fun j r h _ => by cases h)) (fun _ _ => zs_KX_p) zyw_M_named (fun va F G h => by obtain ⟨rfl, _⟩ := h; rfl) (fun va F G h => by obtain ⟨rfl, _⟩ := h; rfl) rfl fun good va F G hB hret hvret hP => by
  obtain ⟨rfl, rfl, rfl⟩ := hP
  have l1 : ∀ (n : Nat) (x1 : Int) (x2 : Int) (x3 : Int) (x4 : Int) (f0 : Int) (f1 : Int) (g1 : (Int → Int)) (g2 : (Int → Int)) (g5 : (Int → Int)) (g9 : (Int → Int)) (q : ((Int × (Int → Int) × (Int → Int) × (Int → Int)) ⊕ (Int × Int × Int × (Int → Int) × (Int → Int) × (Int → Int) × (Int → Int)))), zf_M_named_l1 x1 x3 f0 f2 g1 g3 g4 g6 g7 g8 n x4 f1 g2 g5 g9 = some q → (Sum.elim (fun e : Int × (Int → Int) × (Int → Int) × (Int → Int) => good 132 [.inr 0, .inl x1, .inl x2, .inl x3, .inr 1000] [] [.inl f0, .inl e.1, .inl f2] [g0, g1, e.2.1, g3, g4, e.2.2.1, g6, g7, g8, e.2.2.2]) (fun w : Int × Int × Int × (Int → Int) × (Int → Int) × (Int → Int) × (Int → Int) => w = o) q) → good 64 [.inr 0, .inl x1, .inl x2, .inl x3, .inl x4] [] [.inl f0, .inl f1, .inl f2] [g0, g1, g2, g3, g4, g5, g6, g7, g8, g9] := by
    intro n
    induction n with
    | zero => intro x1 x2 x3 x4 f0 f1 g1 g2 g5 g9 q h; exact absurd (show none = some q from h) (fun h => by cases h)
    | succ n ih =>
      intro x1 x2 x3 x4 f0 f1 g1 g2 g5 g9 q h hK
      replace h : zf_M_named_l1_b x1 x3 f0 f2 g1 g3 g4 g6 g7 g8 (zf_M_named_l1 x1 x3 f0 f2 g1 g3 g4 g6 g7 g8 n) x4 f1 g2 g5 g9 = some q := h
      unfold zf_M_named_l1_b at h
      refine zv_ild hB zd283_64 rfl rfl ?_
      refine zv_ild hB zd283_66 rfl rfl ?_
      refine zv_cge hB zd283_67 rfl (fun hc9 => ?_) (fun hc9 => ?_)
      · rw [if_neg (Int.not_lt.mpr hc9)] at h
        have hq := Option.some.inj h
        subst hq
        refine zv_wk hB (L' := [.inr 0, .inl x1, .inl x2, .inl x3, .inr 1000]) (F' := [.inl f0, .inl f1, .inl f2]) ⟨fun _ => rfl, fun _ => rfl, fun _ => rfl, fun _ => rfl, fun (h : zv_is (.inr 1000)) => (Nat.lt_irrefl 1000 h).elim, trivial⟩ ⟨fun _ => rfl, fun _ => rfl, fun _ => rfl, trivial⟩ ?_
        exact hK
      · rw [if_pos hc9] at h
        refine zv_ald hB zd283_70 rfl rfl rfl ?_
        refine zv_getr hB zd283_71 rfl ?_
        refine zv_ald hB zd283_74 rfl rfl rfl ?_
        refine zv_getf hB zd283_75 rfl rfl (fun _ _ => ?_)
        refine zv_ald hB zd283_78 rfl rfl rfl ?_
        refine zv_ald hB zd283_79 rfl rfl rfl ?_
        refine zv_getr hB zd283_80 rfl ?_
        refine zv_ild hB zd283_83 rfl rfl ?_
        obtain ⟨c10, h⟩ := zi_if h
        refine zv_iald hB zd283_84 rfl rfl (zi_ix_ok c10).1 (zi_ix_ok c10).2 (fun _ _ => ?_)
        obtain ⟨r11, hr11, h⟩ := zi_bind h
        refine zv_cv hB (zv_emq (va2 := [.inr 0, .inl (g1 x3)]) (F := [.inl f0, .inl f1, .inl f2]) (F' := [.inl f0, .inl f1, .inl f2]) (G := [g0, g1, g2, g3, g4, g5, g6, g7, g8, g9]) (G' := [g0, g1, g2, g3, g4, r11.2.1, g6, g7, g8, r11.2.2]) (ρ := [0, 4, 5, 6, 7, 8, 9, 10]) (φ := [2]) (ψ := [3, 4, 5, 6, 7, 8, 9]) [none, none, some 0] [none, none, none, some 0, some 1, some 2, some 3, some 4, some 5, some 6] zyw_M_seenFrom zyw_M_named zye_M_named (by decide +kernel) (zt_M_seenFrom hr11) ⟨⟨_, rfl, fun _ => rfl⟩, trivial⟩ ⟨rfl, rfl, rfl, rfl, rfl, rfl, rfl, trivial⟩ rfl rfl rfl rfl rfl rfl rfl) zd283_85 zxt240 rfl (by decide) (by decide) rfl ?_
        refine zv_ald hB zd283_88 rfl rfl rfl ?_
        refine zv_ald hB zd283_89 rfl rfl rfl ?_
        refine zv_getr hB zd283_90 rfl ?_
        refine zv_ild hB zd283_93 rfl rfl ?_
        obtain ⟨c12, h⟩ := zi_if h
        refine zv_iald hB zd283_95 rfl rfl (zi_ix_ok c12).1 (zi_ix_ok c12).2 (fun _ _ => ?_)
        obtain ⟨r13, hr13, h⟩ := zi_bind h
        refine zv_cv hB (zv_emq (va2 := [.inr 0, .inl (g1 x4)]) (F := [.inl f0, .inl f1, .inl f2]) (F' := [.inl f0, .inl f1, .inl f2]) (G := [g0, g1, g2, g3, g4, r11.2.1, g6, g7, g8, r11.2.2]) (G' := [g0, g1, g2, g3, g4, r13.2.1, g6, g7, g8, r13.2.2]) (ρ := [0, 4, 5, 6, 7, 8, 9, 10]) (φ := [2]) (ψ := [3, 4, 5, 6, 7, 8, 9]) [none, none, some 0] [none, none, none, some 0, some 1, some 2, some 3, some 4, some 5, some 6] zyw_M_seenFrom zyw_M_named zye_M_named (by decide +kernel) (zt_M_seenFrom hr13) ⟨⟨_, rfl, fun _ => rfl⟩, trivial⟩ ⟨rfl, rfl, rfl, rfl, rfl, rfl, rfl, trivial⟩ rfl rfl rfl rfl rfl rfl rfl) zd283_96 zxt240 rfl (by decide) (by decide) rfl ?_
        refine zv_xorw hB zd283_99 ?_
        obtain ⟨c14, h⟩ := zi_if h
        refine zv_iast hB zd283_100 rfl rfl (zi_ix_ok c14).1 (zi_ix_ok c14).2 ?_
        refine zv_ald hB zd283_101 rfl rfl rfl ?_
        refine zv_getr hB zd283_102 rfl ?_
        refine zv_ald hB zd283_105 rfl rfl rfl ?_
        refine zv_getf hB zd283_106 rfl rfl (fun _ _ => ?_)
        refine zv_iald hB zd283_109 rfl rfl (zi_ix_ok c14).1 (zi_ix_ok c14).2 (fun _ _ => ?_)
        refine zv_zne hB zd283_110 rfl (fun hc15 => ?_) (fun hc15 => ?_)
        · rw [if_neg hc15] at h
          refine zv_ald hB zd283_116 rfl rfl rfl ?_
          refine zv_ald hB zd283_117 rfl rfl rfl ?_
          refine zv_getf hB zd283_118 rfl rfl (fun _ _ => ?_)
          refine zv_con hB zd283_121 rfl ?_
          refine zv_addw hB zd283_122 ?_
          refine zv_putf hB zd283_123 rfl rfl (fun h => by cases h) rfl ?_
          refine zv_iincw hB zd283_126 rfl rfl ?_
          refine zv_goto hB zd283_129 rfl ?_
          exact ih _ _ _ _ _ _ _ _ _ _ q h hK
        · rw [if_pos hc15] at h
          refine zv_con hB zd283_113 rfl ?_
          have hw : ((-2), f0, f1, g1, (zv_up g2 f1 (zi_xor r11.1 r13.1)), r13.2.1, r13.2.2) = o := zi_rk (Option.some.inj h) hK
          subst hw
          exact hret _ _ _ _ _ zd283_115 (by trivial) ⟨rfl, rfl, rfl⟩
  have l0 : ∀ (n : Nat) (x1 : Int) (x2 : Int) (x3 : Int) (f0 : Int) (f1 : Int) (g1 : (Int → Int)) (g2 : (Int → Int)) (g5 : (Int → Int)) (g9 : (Int → Int)) (q : ((Int × (Int → Int) × (Int → Int) × (Int → Int)) ⊕ (Int × Int × Int × (Int → Int) × (Int → Int) × (Int → Int) × (Int → Int)))), zf_M_named_l0 x1 f0 f2 g1 g3 g4 g6 g7 g8 n x3 f1 g2 g5 g9 = some q → (Sum.elim (fun e : Int × (Int → Int) × (Int → Int) × (Int → Int) => good 138 [.inr 0, .inl x1, .inl x2, .inr 1000, .inr 1000] [] [.inl f0, .inl e.1, .inl f2] [g0, g1, e.2.1, g3, g4, e.2.2.1, g6, g7, g8, e.2.2.2]) (fun w : Int × Int × Int × (Int → Int) × (Int → Int) × (Int → Int) × (Int → Int) => w = o) q) → good 54 [.inr 0, .inl x1, .inl x2, .inl x3, .inr 1000] [] [.inl f0, .inl f1, .inl f2] [g0, g1, g2, g3, g4, g5, g6, g7, g8, g9] := by
    intro n
    induction n with
    | zero => intro x1 x2 x3 f0 f1 g1 g2 g5 g9 q h; exact absurd (show none = some q from h) (fun h => by cases h)
    | succ n ih =>
      intro x1 x2 x3 f0 f1 g1 g2 g5 g9 q h hK
      replace h : zf_M_named_l0_b x1 f0 f2 g1 g3 g4 g6 g7 g8 (zf_M_named_l0 x1 f0 f2 g1 g3 g4 g6 g7 g8 n) x3 f1 g2 g5 g9 = some q := h
      unfold zf_M_named_l0_b at h
      refine zv_ild hB zd283_54 rfl rfl ?_
      refine zv_ild hB zd283_55 rfl rfl ?_
      refine zv_cge hB zd283_56 rfl (fun hc8 => ?_) (fun hc8 => ?_)
      · rw [if_neg (Int.not_lt.mpr hc8)] at h
        have hq := Option.some.inj h
        subst hq
        refine zv_wk hB (L' := [.inr 0, .inl x1, .inl x2, .inr 1000, .inr 1000]) (F' := [.inl f0, .inl f1, .inl f2]) ⟨fun _ => rfl, fun _ => rfl, fun _ => rfl, fun (h : zv_is (.inr 1000)) => (Nat.lt_irrefl 1000 h).elim, fun (h : zv_is (.inr 1000)) => (Nat.lt_irrefl 1000 h).elim, trivial⟩ ⟨fun _ => rfl, fun _ => rfl, fun _ => rfl, trivial⟩ ?_
        exact hK
      · rw [if_pos hc8] at h
        refine zv_ild hB zd283_59 rfl rfl ?_
        refine zv_con hB zd283_60 rfl ?_
        refine zv_addw hB zd283_61 ?_
        refine zv_ist hB zd283_62 rfl rfl rfl ?_
        obtain ⟨q16, hq16, h⟩ := zi_bind h
        refine l1 _ _ _ _ _ _ _ _ _ _ _ q16 hq16 ?_
        rcases q16 with e17 | w18
        · replace h := zi_sl h
          show good 132 [.inr 0, .inl x1, .inl x2, .inl x3, .inr 1000] [] [.inl f0, .inl e17.1, .inl f2] [g0, g1, e17.2.1, g3, g4, e17.2.2.1, g6, g7, g8, e17.2.2.2]
          refine zv_iincw hB zd283_132 rfl rfl ?_
          refine zv_goto hB zd283_135 rfl ?_
          exact ih _ _ _ _ _ _ _ _ _ q h hK
        · exact zi_rk (Option.some.inj h) hK
  have l2 : ∀ (n : Nat) (x1 : Int) (x2 : Int) (x3 : Int) (f0 : Int) (f1 : Int) (g1 : (Int → Int)) (g2 : (Int → Int)) (g5 : (Int → Int)) (g9 : (Int → Int)) (q : ((Unit) ⊕ (Int × Int × Int × (Int → Int) × (Int → Int) × (Int → Int) × (Int → Int)))), zf_M_named_l2 x1 x2 f0 f1 g1 g2 g3 g5 g9 n x3 = some q → (Sum.elim (fun e : Unit => good 175 [.inr 1000, .inr 1000, .inr 1000, .inr 1000, .inr 1000] [] [.inl f0, .inl f1, .inl f2] [g0, g1, g2, g3, g4, g5, g6, g7, g8, g9]) (fun w : Int × Int × Int × (Int → Int) × (Int → Int) × (Int → Int) × (Int → Int) => w = o) q) → good 140 [.inr 0, .inl x1, .inl x2, .inl x3, .inr 1000] [] [.inl f0, .inl f1, .inl f2] [g0, g1, g2, g3, g4, g5, g6, g7, g8, g9] := by
    intro n
    induction n with
    | zero => intro x1 x2 x3 f0 f1 g1 g2 g5 g9 q h; exact absurd (show none = some q from h) (fun h => by cases h)
    | succ n ih =>
      intro x1 x2 x3 f0 f1 g1 g2 g5 g9 q h hK
      replace h : zf_M_named_l2_b x1 x2 f0 f1 g1 g2 g3 g5 g9 (zf_M_named_l2 x1 x2 f0 f1 g1 g2 g3 g5 g9 n) x3 = some q := h
      unfold zf_M_named_l2_b at h
      refine zv_ild hB zd283_140 rfl rfl ?_
      refine zv_ild hB zd283_141 rfl rfl ?_
      refine zv_cge hB zd283_142 rfl (fun hc21 => ?_) (fun hc21 => ?_)
      · rw [if_neg (Int.not_lt.mpr hc21)] at h
        have hq := Option.some.inj h
        subst hq
        refine zv_wk hB (L' := [.inr 1000, .inr 1000, .inr 1000, .inr 1000, .inr 1000]) (F' := [.inl f0, .inl f1, .inl f2]) ⟨fun (h : zv_is (.inr 1000)) => (Nat.lt_irrefl 1000 h).elim, fun (h : zv_is (.inr 1000)) => (Nat.lt_irrefl 1000 h).elim, fun (h : zv_is (.inr 1000)) => (Nat.lt_irrefl 1000 h).elim, fun (h : zv_is (.inr 1000)) => (Nat.lt_irrefl 1000 h).elim, fun (h : zv_is (.inr 1000)) => (Nat.lt_irrefl 1000 h).elim, trivial⟩ ⟨fun _ => rfl, fun _ => rfl, fun _ => rfl, trivial⟩ ?_
        exact hK
      · rw [if_pos hc21] at h
        refine zv_ald hB zd283_145 rfl rfl rfl ?_
        refine zv_ild hB zd283_146 rfl rfl ?_
        obtain ⟨r22, hr22, h⟩ := zi_bind h
        refine zv_cv hB (zv_emq (va2 := [.inr 0, .inl x3]) (F := [.inl f0, .inl f1, .inl f2]) (F' := [.inl f0, .inl f1, .inl f2]) (G := [g0, g1, g2, g3, g4, g5, g6, g7, g8, g9]) (G' := [g0, g1, g2, g3, g4, g5, g6, g7, g8, g9]) (ρ := [0, 4, 3]) (φ := [1]) (ψ := [3, 2]) [none, some 0, none] [none, none, some 1, some 0, none, none, none, none, none, none] zyw_M_leastOf zyw_M_named zye_M_named (by decide +kernel) (zt_M_leastOf hr22) ⟨⟨_, rfl, fun _ => rfl⟩, trivial⟩ ⟨rfl, rfl, trivial⟩ rfl rfl rfl rfl rfl rfl rfl) zd283_147 zxt285 rfl (by decide) (by decide) rfl ?_
        refine zv_ist hB zd283_150 rfl rfl rfl ?_
        refine zv_ild hB zd283_152 rfl rfl ?_
        refine zv_con hB zd283_154 rfl ?_
        refine zv_ceq hB zd283_155 rfl (fun hc23 => ?_) (fun hc23 => ?_)
        · rw [if_pos hc23] at h
          refine zv_iincw hB zd283_169 rfl rfl ?_
          refine zv_goto hB zd283_172 rfl ?_
          refine zv_wk hB (L' := [.inr 0, .inl x1, .inl x2, .inl (zi_w (x3 + 1)), .inr 1000]) (F' := [.inl f0, .inl f1, .inl f2]) ⟨fun _ => rfl, fun _ => rfl, fun _ => rfl, fun _ => rfl, fun (h : zv_is (.inr 1000)) => (Nat.lt_irrefl 1000 h).elim, trivial⟩ ⟨fun _ => rfl, fun _ => rfl, fun _ => rfl, trivial⟩ ?_
          exact ih _ _ _ _ _ _ _ _ _ q h hK
        · rw [if_neg hc23] at h
          refine zv_ild hB zd283_158 rfl rfl ?_
          refine zv_zne hB zd283_159 rfl (fun hc24 => ?_) (fun hc24 => ?_)
          · rw [if_neg hc24] at h
            refine zv_ild hB zd283_166 rfl rfl ?_
            have hw : (r22, f0, f1, g1, g2, g5, g9) = o := zi_rk (Option.some.inj h) hK
            subst hw
            exact hret _ _ _ _ _ zd283_168 (by trivial) ⟨rfl, rfl, rfl⟩
          · rw [if_pos hc24] at h
            refine zv_ild hB zd283_162 rfl rfl ?_
            refine zv_goto hB zd283_163 rfl ?_
            have hw : (x3, f0, f1, g1, g2, g5, g9) = o := zi_rk (Option.some.inj h) hK
            subst hw
            exact hret _ _ _ _ _ zd283_168 (by trivial) ⟨rfl, rfl, rfl⟩
  unfold zf_M_named at h
  refine zv_ild hB zd283_0 rfl rfl ?_
  refine zv_con hB zd283_1 rfl ?_
  refine zv_con hB zd283_2 rfl ?_
  obtain ⟨r1, hr1, h⟩ := zi_bind h
  refine zv_cs hB (zv_emq (va2 := [.inl x1, .inl 2, .inl 8]) (F := [.inl f0, .inl f1, .inl f2]) (F' := [.inl f0, .inl f1, .inl f2]) (G := [g0, g1, g2, g3, g4, g5, g6, g7, g8, g9]) (G' := [g0, g1, g2, g3, g4, g5, g6, g7, g8, g9]) (ρ := []) (φ := []) (ψ := []) [none, none, none] [none, none, none, none, none, none, none, none, none, none] zyw_M_in zyw_M_named zye_M_named (by decide +kernel) (zt_M_in hr1) trivial trivial rfl rfl rfl rfl rfl rfl rfl) zd283_4 zxt200 rfl (by decide) (by decide) rfl ?_
  refine zv_zeq hB zd283_7 rfl (fun hc2 => ?_) (fun hc2 => ?_)
  · rw [if_pos hc2] at h
    refine zv_con hB zd283_29 rfl ?_
    have hw := Option.some.inj h
    subst hw
    exact hret _ _ _ _ _ zd283_30 (by trivial) ⟨rfl, rfl, rfl⟩
  · rw [if_neg hc2] at h
    refine zv_ild hB zd283_10 rfl rfl ?_
    refine zv_con hB zd283_11 rfl ?_
    refine zv_con hB zd283_12 rfl ?_
    obtain ⟨r3, hr3, h⟩ := zi_bind h
    refine zv_cs hB (zv_emq (va2 := [.inl x2, .inl 0, .inl 1]) (F := [.inl f0, .inl f1, .inl f2]) (F' := [.inl f0, .inl f1, .inl f2]) (G := [g0, g1, g2, g3, g4, g5, g6, g7, g8, g9]) (G' := [g0, g1, g2, g3, g4, g5, g6, g7, g8, g9]) (ρ := []) (φ := []) (ψ := []) [none, none, none] [none, none, none, none, none, none, none, none, none, none] zyw_M_in zyw_M_named zye_M_named (by decide +kernel) (zt_M_in hr3) trivial trivial rfl rfl rfl rfl rfl rfl rfl) zd283_13 zxt200 rfl (by decide) (by decide) rfl ?_
    refine zv_zeq hB zd283_16 rfl (fun hc4 => ?_) (fun hc4 => ?_)
    · rw [if_pos hc4] at h
      refine zv_con hB zd283_29 rfl ?_
      have hw := Option.some.inj h
      subst hw
      exact hret _ _ _ _ _ zd283_30 (by trivial) ⟨rfl, rfl, rfl⟩
    · rw [if_neg hc4] at h
      refine zv_con hB zd283_19 rfl ?_
      refine zv_ild hB zd283_20 rfl rfl ?_
      refine zv_mulw hB zd283_21 ?_
      refine zv_ald hB zd283_22 rfl rfl rfl ?_
      refine zv_getf hB zd283_23 rfl rfl (fun _ _ => ?_)
      refine zv_cle hB zd283_26 rfl (fun hc5 => ?_) (fun hc5 => ?_)
      · rw [if_neg (Int.not_lt.mpr hc5)] at h
        refine zv_ald hB zd283_31 rfl rfl rfl ?_
        refine zv_con hB zd283_32 rfl ?_
        refine zv_putf hB zd283_33 rfl rfl (fun h => by cases h) rfl ?_
        refine zv_ald hB zd283_36 rfl rfl rfl ?_
        refine zv_ild hB zd283_37 rfl rfl ?_
        obtain ⟨r6, hr6, h⟩ := zi_bind h
        refine zv_cv hB (zv_emq (va2 := [.inr 0, .inl x1]) (F := [.inl 0, .inl f1, .inl f2]) (F' := [.inl 0, .inl f1, .inl f2]) (G := [g0, g1, g2, g3, g4, g5, g6, g7, g8, g9]) (G' := [g0, r6.2, g2, g3, g4, g5, g6, g7, g8, g9]) (ρ := [0, 1, 2]) (φ := []) (ψ := [0, 1]) [none, none, none] [some 0, some 1, none, none, none, none, none, none, none, none] zyw_M_takesPlaces zyw_M_named zye_M_named (by decide +kernel) (zt_M_takesPlaces hr6) trivial ⟨rfl, rfl, trivial⟩ rfl rfl rfl rfl rfl rfl rfl) zd283_38 zxt284 rfl (by decide) (by decide) rfl ?_
        refine zv_zne hB zd283_41 rfl (fun hc7 => ?_) (fun hc7 => ?_)
        · rw [if_neg hc7] at h
          refine zv_ald hB zd283_47 rfl rfl rfl ?_
          refine zv_con hB zd283_48 rfl ?_
          refine zv_putf hB zd283_49 rfl rfl (fun h => by cases h) rfl ?_
          refine zv_con hB zd283_52 rfl ?_
          refine zv_ist hB zd283_53 rfl rfl rfl ?_
          obtain ⟨q19, hq19, h⟩ := zi_bind h
          refine l0 _ _ _ _ _ _ _ _ _ _ q19 hq19 ?_
          rcases q19 with e20 | w28
          · replace h := zi_sl h
            show good 138 [.inr 0, .inl x1, .inl x2, .inr 1000, .inr 1000] [] [.inl 0, .inl e20.1, .inl f2] [g0, r6.2, e20.2.1, g3, g4, e20.2.2.1, g6, g7, g8, e20.2.2.2]
            refine zv_con hB zd283_138 rfl ?_
            refine zv_ist hB zd283_139 rfl rfl rfl ?_
            obtain ⟨q25, hq25, h⟩ := zi_bind h
            refine l2 _ _ _ _ _ _ _ _ _ _ q25 hq25 ?_
            rcases q25 with e26 | w27
            · replace h := zi_sl h
              show good 175 [.inr 1000, .inr 1000, .inr 1000, .inr 1000, .inr 1000] [] [.inl 0, .inl e20.1, .inl f2] [g0, r6.2, e20.2.1, g3, g4, e20.2.2.1, g6, g7, g8, e20.2.2.2]
              refine zv_con hB zd283_175 rfl ?_
              have hw := Option.some.inj h
              subst hw
              exact hret _ _ _ _ _ zd283_177 (by trivial) ⟨rfl, rfl, rfl⟩
            · exact Option.some.inj h
          · exact Option.some.inj h
        · rw [if_pos hc7] at h
          refine zv_con hB zd283_44 rfl ?_
          have hw := Option.some.inj h
          subst hw
          exact hret _ _ _ _ _ zd283_46 (by trivial) ⟨rfl, rfl, rfl⟩
      · rw [if_pos hc5] at h
        refine zv_con hB zd283_29 rfl ?_
        have hw := Option.some.inj h
        subst hw
        exact hret _ _ _ _ _ zd283_30 (by trivial) ⟨rfl, rfl, rfl⟩
/-! M_byLaw (II)I -/
-- names: 0 StarTalesModel('arg', 0), 1 (0, 14)(0, 12, 21), 2 (0, 14)(0, 12, 23), 3 (0, 14)(0, 12, 24), 4 (0, 220)(0, 12, 20), 5 (0, 220)(0, 12, 25), 6 (0, 13)(0, 12, 26), 7 (0, 14)(0, 12, 22)
-- fields: f0 = 0.clauses_; arrays: g0 = 1, g1 = 2, g2 = 3, g3 = 4, g4 = 5, g5 = 6, g6 = 7; out: [('ret', None), ('g', 4)]
abbrev zy_M_byLaw : zNL := (8, [(0, 12)], [(0, 12, 13, 0)], [(0, 12, 21, 1), (0, 12, 23, 2), (0, 12, 24, 3), (0, 12, 20, 4), (0, 12, 25, 5), (0, 12, 26, 6), (0, 12, 22, 7)], [(1, 0, 14, 0), (2, 0, 14, 1), (3, 0, 14, 2), (4, 0, 220, 3), (5, 0, 220, 4), (6, 0, 13, 5), (7, 0, 14, 6)])
theorem zyw_M_byLaw : zv_wf zy_M_byLaw = true := by decide +kernel
theorem zye_M_byLaw : zv_ek2 zy_M_byLaw = true := by decide +kernel
def zf_M_byLaw_l0_b (x1 : Int) (x2 : Int) (f0 : Int) (g0 : (Int → Int)) (g1 : (Int → Int)) (g2 : (Int → Int)) (g3 : (Int → Int)) (g5 : (Int → Int)) (g6 : (Int → Int)) (rec : Int → (Int → Int) → Option ((((Int → Int)) ⊕ (Int × (Int → Int))))) (x3 : Int) (g4 : (Int → Int)) : Option ((((Int → Int)) ⊕ (Int × (Int → Int)))) := if x3 < f0 then (cond (zi_ix x3 14) (if (g0 x3) = x1 then ((zf_M_comesTo (g1 x3) (g2 x3) g3 g4 g5).bind fun r4 => (if r4.1 = 1 then ((zf_M_comesTo (g6 x3) (g1 x3) g3 r4.2 g5).bind fun r6 => (if r6.1 < 0 then (some (.inr (0, r6.2))) else (if x2 < r6.1 then (some (.inr (x2, r6.2))) else (some (.inr (r6.1, r6.2)))))) else (rec (zi_w (x3 + 1)) r4.2))) else (rec (zi_w (x3 + 1)) g4)) none) else (some (.inl g4))
def zf_M_byLaw_l0 (x1 : Int) (x2 : Int) (f0 : Int) (g0 : (Int → Int)) (g1 : (Int → Int)) (g2 : (Int → Int)) (g3 : (Int → Int)) (g5 : (Int → Int)) (g6 : (Int → Int)) : Nat → Int → (Int → Int) → Option ((((Int → Int)) ⊕ (Int × (Int → Int))))
  | 0, _, _ => none
  | n + 1, x3, g4 => zf_M_byLaw_l0_b x1 x2 f0 g0 g1 g2 g3 g5 g6 (zf_M_byLaw_l0 x1 x2 f0 g0 g1 g2 g3 g5 g6 n) x3 g4
def zf_M_byLaw (x1 : Int) (x2 : Int) (f0 : Int) (g0 : (Int → Int)) (g1 : (Int → Int)) (g2 : (Int → Int)) (g3 : (Int → Int)) (g4 : (Int → Int)) (g5 : (Int → Int)) (g6 : (Int → Int)) : Option (Int × (Int → Int)) := (zf_M_byLaw_l0 x1 x2 f0 g0 g1 g2 g3 g5 g6 zi_fu 0 g4).bind fun q9 => Sum.elim (fun e10 => (some (0, e10))) (fun w11 => some w11) q9
theorem zd288_0 : decode zxm288.2.1 0 = .ok (.iconst 0, 1) := by decide +kernel
theorem zd288_1 : decode zxm288.2.1 1 = .ok (.istore_n 3, 1) := by decide +kernel
theorem zd288_2 : decode zxm288.2.1 2 = .ok (.iload_n 3, 1) := by decide +kernel
theorem zd288_3 : decode zxm288.2.1 3 = .ok (.aload_n 0, 1) := by decide +kernel
theorem zd288_4 : decode zxm288.2.1 4 = .ok (.getfield 268, 3) := by decide +kernel
theorem zd288_7 : decode zxm288.2.1 7 = .ok (.if_icmp .ge 82, 3) := by decide +kernel
theorem zd288_10 : decode zxm288.2.1 10 = .ok (.aload_n 0, 1) := by decide +kernel
theorem zd288_11 : decode zxm288.2.1 11 = .ok (.getfield 44, 3) := by decide +kernel
theorem zd288_14 : decode zxm288.2.1 14 = .ok (.iload_n 3, 1) := by decide +kernel
theorem zd288_15 : decode zxm288.2.1 15 = .ok (.iaload, 1) := by decide +kernel
theorem zd288_16 : decode zxm288.2.1 16 = .ok (.iload_n 1, 1) := by decide +kernel
theorem zd288_17 : decode zxm288.2.1 17 = .ok (.if_icmp .ne 66, 3) := by decide +kernel
theorem zd288_20 : decode zxm288.2.1 20 = .ok (.aload_n 0, 1) := by decide +kernel
theorem zd288_21 : decode zxm288.2.1 21 = .ok (.aload_n 0, 1) := by decide +kernel
theorem zd288_22 : decode zxm288.2.1 22 = .ok (.getfield 50, 3) := by decide +kernel
theorem zd288_25 : decode zxm288.2.1 25 = .ok (.iload_n 3, 1) := by decide +kernel
theorem zd288_26 : decode zxm288.2.1 26 = .ok (.iaload, 1) := by decide +kernel
theorem zd288_27 : decode zxm288.2.1 27 = .ok (.aload_n 0, 1) := by decide +kernel
theorem zd288_28 : decode zxm288.2.1 28 = .ok (.getfield 53, 3) := by decide +kernel
theorem zd288_31 : decode zxm288.2.1 31 = .ok (.iload_n 3, 1) := by decide +kernel
theorem zd288_32 : decode zxm288.2.1 32 = .ok (.iaload, 1) := by decide +kernel
theorem zd288_33 : decode zxm288.2.1 33 = .ok (.invokevirtual 275, 3) := by decide +kernel
theorem zd288_36 : decode zxm288.2.1 36 = .ok (.iconst 1, 1) := by decide +kernel
theorem zd288_37 : decode zxm288.2.1 37 = .ok (.if_icmp .eq 6, 3) := by decide +kernel
theorem zd288_40 : decode zxm288.2.1 40 = .ok (.goto 43, 3) := by decide +kernel
theorem zd288_43 : decode zxm288.2.1 43 = .ok (.aload_n 0, 1) := by decide +kernel
theorem zd288_44 : decode zxm288.2.1 44 = .ok (.aload_n 0, 1) := by decide +kernel
theorem zd288_45 : decode zxm288.2.1 45 = .ok (.getfield 47, 3) := by decide +kernel
theorem zd288_48 : decode zxm288.2.1 48 = .ok (.iload_n 3, 1) := by decide +kernel
theorem zd288_49 : decode zxm288.2.1 49 = .ok (.iaload, 1) := by decide +kernel
theorem zd288_50 : decode zxm288.2.1 50 = .ok (.aload_n 0, 1) := by decide +kernel
theorem zd288_51 : decode zxm288.2.1 51 = .ok (.getfield 50, 3) := by decide +kernel
theorem zd288_54 : decode zxm288.2.1 54 = .ok (.iload_n 3, 1) := by decide +kernel
theorem zd288_55 : decode zxm288.2.1 55 = .ok (.iaload, 1) := by decide +kernel
theorem zd288_56 : decode zxm288.2.1 56 = .ok (.invokevirtual 275, 3) := by decide +kernel
theorem zd288_59 : decode zxm288.2.1 59 = .ok (.istore 4, 2) := by decide +kernel
theorem zd288_61 : decode zxm288.2.1 61 = .ok (.iload 4, 2) := by decide +kernel
theorem zd288_63 : decode zxm288.2.1 63 = .ok (.ifCond .ge 7, 3) := by decide +kernel
theorem zd288_66 : decode zxm288.2.1 66 = .ok (.iconst 0, 1) := by decide +kernel
theorem zd288_67 : decode zxm288.2.1 67 = .ok (.goto 15, 3) := by decide +kernel
theorem zd288_70 : decode zxm288.2.1 70 = .ok (.iload 4, 2) := by decide +kernel
theorem zd288_72 : decode zxm288.2.1 72 = .ok (.iload_n 2, 1) := by decide +kernel
theorem zd288_73 : decode zxm288.2.1 73 = .ok (.if_icmp .le 7, 3) := by decide +kernel
theorem zd288_76 : decode zxm288.2.1 76 = .ok (.iload_n 2, 1) := by decide +kernel
theorem zd288_77 : decode zxm288.2.1 77 = .ok (.goto 5, 3) := by decide +kernel
theorem zd288_80 : decode zxm288.2.1 80 = .ok (.iload 4, 2) := by decide +kernel
theorem zd288_82 : decode zxm288.2.1 82 = .ok (.ireturn, 1) := by decide +kernel
theorem zd288_83 : decode zxm288.2.1 83 = .ok (.iinc 3 1, 3) := by decide +kernel
theorem zd288_86 : decode zxm288.2.1 86 = .ok (.goto (-84), 3) := by decide +kernel
theorem zd288_89 : decode zxm288.2.1 89 = .ok (.iconst 0, 1) := by decide +kernel
theorem zd288_90 : decode zxm288.2.1 90 = .ok (.ireturn, 1) := by decide +kernel
theorem zt_M_byLaw {x1 : Int} {x2 : Int} {f0 : Int} {g0 : (Int → Int)} {g1 : (Int → Int)} {g2 : (Int → Int)} {g3 : (Int → Int)} {g4 : (Int → Int)} {g5 : (Int → Int)} {g6 : (Int → Int)} {o : Int × (Int → Int)} (h : zf_M_byLaw x1 x2 f0 g0 g1 g2 g3 g4 g5 g6 = some o) : zv_Fn z_TB z_cl z_KX zy_M_byLaw zxm288 (2, 120) [.inr 0, .inl x1, .inl x2] [.inl f0] [g0, g1, g2, g3, g4, g5, g6] (some o.1) [.inl f0] [g0, g1, g2, g3, o.2, g5, g6] := zv_meth (K := (z_KF13, z_KC13, z_KL13, z_KT13, [], [], [], none)) (FT := z_FT) (MT := z_MT) (n := 3) zxp288 (z_ks13 _ (fun _ h => List.mem_cons_of_mem _ h) _ _ _ _ (fun j r h _ => by cases h)) (fun _ _ => zs_KX_p) zyw_M_byLaw (fun va F G h => by obtain ⟨rfl, _⟩ := h; rfl) (fun va F G h => by obtain ⟨rfl, _⟩ := h; rfl) rfl fun good va F G hB hret hvret hP => by
  obtain ⟨rfl, rfl, rfl⟩ := hP
  have l0 : ∀ (n : Nat) (x1 : Int) (x2 : Int) (x3 : Int) (g4 : (Int → Int)) (q : (((Int → Int)) ⊕ (Int × (Int → Int)))), zf_M_byLaw_l0 x1 x2 f0 g0 g1 g2 g3 g5 g6 n x3 g4 = some q → (Sum.elim (fun e : (Int → Int) => good 89 [.inr 1000, .inr 1000, .inr 1000, .inr 1000, .inr 1000] [] [.inl f0] [g0, g1, g2, g3, e, g5, g6]) (fun w : Int × (Int → Int) => w = o) q) → good 2 [.inr 0, .inl x1, .inl x2, .inl x3, .inr 1000] [] [.inl f0] [g0, g1, g2, g3, g4, g5, g6] := by
    intro n
    induction n with
    | zero => intro x1 x2 x3 g4 q h; exact absurd (show none = some q from h) (fun h => by cases h)
    | succ n ih =>
      intro x1 x2 x3 g4 q h hK
      replace h : zf_M_byLaw_l0_b x1 x2 f0 g0 g1 g2 g3 g5 g6 (zf_M_byLaw_l0 x1 x2 f0 g0 g1 g2 g3 g5 g6 n) x3 g4 = some q := h
      unfold zf_M_byLaw_l0_b at h
      refine zv_ild hB zd288_2 rfl rfl ?_
      refine zv_ald hB zd288_3 rfl rfl rfl ?_
      refine zv_getf hB zd288_4 rfl rfl (fun _ _ => ?_)
      refine zv_cge hB zd288_7 rfl (fun hc1 => ?_) (fun hc1 => ?_)
      · rw [if_neg (Int.not_lt.mpr hc1)] at h
        have hq := Option.some.inj h
        subst hq
        refine zv_wk hB (L' := [.inr 1000, .inr 1000, .inr 1000, .inr 1000, .inr 1000]) (F' := [.inl f0]) ⟨fun (h : zv_is (.inr 1000)) => (Nat.lt_irrefl 1000 h).elim, fun (h : zv_is (.inr 1000)) => (Nat.lt_irrefl 1000 h).elim, fun (h : zv_is (.inr 1000)) => (Nat.lt_irrefl 1000 h).elim, fun (h : zv_is (.inr 1000)) => (Nat.lt_irrefl 1000 h).elim, fun (h : zv_is (.inr 1000)) => (Nat.lt_irrefl 1000 h).elim, trivial⟩ ⟨fun _ => rfl, trivial⟩ ?_
        exact hK
      · rw [if_pos hc1] at h
        refine zv_ald hB zd288_10 rfl rfl rfl ?_
        refine zv_getr hB zd288_11 rfl ?_
        refine zv_ild hB zd288_14 rfl rfl ?_
        obtain ⟨c2, h⟩ := zi_if h
        refine zv_iald hB zd288_15 rfl rfl (zi_ix_ok c2).1 (zi_ix_ok c2).2 (fun _ _ => ?_)
        refine zv_ild hB zd288_16 rfl rfl ?_
        refine zv_cne hB zd288_17 rfl (fun hc3 => ?_) (fun hc3 => ?_)
        · rw [if_neg hc3] at h
          refine zv_iincw hB zd288_83 rfl rfl ?_
          refine zv_goto hB zd288_86 rfl ?_
          exact ih _ _ _ _ q h hK
        · rw [if_pos hc3] at h
          refine zv_ald hB zd288_20 rfl rfl rfl ?_
          refine zv_ald hB zd288_21 rfl rfl rfl ?_
          refine zv_getr hB zd288_22 rfl ?_
          refine zv_ild hB zd288_25 rfl rfl ?_
          refine zv_iald hB zd288_26 rfl rfl (zi_ix_ok c2).1 (zi_ix_ok c2).2 (fun _ _ => ?_)
          refine zv_ald hB zd288_27 rfl rfl rfl ?_
          refine zv_getr hB zd288_28 rfl ?_
          refine zv_ild hB zd288_31 rfl rfl ?_
          refine zv_iald hB zd288_32 rfl rfl (zi_ix_ok c2).1 (zi_ix_ok c2).2 (fun _ _ => ?_)
          obtain ⟨r4, hr4, h⟩ := zi_bind h
          refine zv_cv hB (zv_emq (va2 := [.inr 0, .inl (g1 x3), .inl (g2 x3)]) (F := [.inl f0]) (F' := [.inl f0]) (G := [g0, g1, g2, g3, g4, g5, g6]) (G' := [g0, g1, g2, g3, r4.2, g5, g6]) (ρ := [0, 4, 5, 6]) (φ := []) (ψ := [3, 4, 5]) [none] [none, none, none, some 0, some 1, some 2, none] zyw_M_comesTo zyw_M_byLaw zye_M_byLaw (by decide +kernel) (zt_M_comesTo hr4) trivial ⟨rfl, rfl, rfl, trivial⟩ rfl rfl rfl rfl rfl rfl rfl) zd288_33 zxt249 rfl (by decide) (by decide) rfl ?_
          refine zv_con hB zd288_36 rfl ?_
          refine zv_ceq hB zd288_37 rfl (fun hc5 => ?_) (fun hc5 => ?_)
          · rw [if_pos hc5] at h
            refine zv_ald hB zd288_43 rfl rfl rfl ?_
            refine zv_ald hB zd288_44 rfl rfl rfl ?_
            refine zv_getr hB zd288_45 rfl ?_
            refine zv_ild hB zd288_48 rfl rfl ?_
            refine zv_iald hB zd288_49 rfl rfl (zi_ix_ok c2).1 (zi_ix_ok c2).2 (fun _ _ => ?_)
            refine zv_ald hB zd288_50 rfl rfl rfl ?_
            refine zv_getr hB zd288_51 rfl ?_
            refine zv_ild hB zd288_54 rfl rfl ?_
            refine zv_iald hB zd288_55 rfl rfl (zi_ix_ok c2).1 (zi_ix_ok c2).2 (fun _ _ => ?_)
            obtain ⟨r6, hr6, h⟩ := zi_bind h
            refine zv_cv hB (zv_emq (va2 := [.inr 0, .inl (g6 x3), .inl (g1 x3)]) (F := [.inl f0]) (F' := [.inl f0]) (G := [g0, g1, g2, g3, r4.2, g5, g6]) (G' := [g0, g1, g2, g3, r6.2, g5, g6]) (ρ := [0, 4, 5, 6]) (φ := []) (ψ := [3, 4, 5]) [none] [none, none, none, some 0, some 1, some 2, none] zyw_M_comesTo zyw_M_byLaw zye_M_byLaw (by decide +kernel) (zt_M_comesTo hr6) trivial ⟨rfl, rfl, rfl, trivial⟩ rfl rfl rfl rfl rfl rfl rfl) zd288_56 zxt249 rfl (by decide) (by decide) rfl ?_
            refine zv_ist hB zd288_59 rfl rfl rfl ?_
            refine zv_ild hB zd288_61 rfl rfl ?_
            refine zv_zge hB zd288_63 rfl (fun hc7 => ?_) (fun hc7 => ?_)
            · rw [if_neg (Int.not_lt.mpr hc7)] at h
              refine zv_ild hB zd288_70 rfl rfl ?_
              refine zv_ild hB zd288_72 rfl rfl ?_
              refine zv_cle hB zd288_73 rfl (fun hc8 => ?_) (fun hc8 => ?_)
              · rw [if_neg (Int.not_lt.mpr hc8)] at h
                refine zv_ild hB zd288_80 rfl rfl ?_
                have hw : (r6.1, r6.2) = o := zi_rk (Option.some.inj h) hK
                subst hw
                exact hret _ _ _ _ _ zd288_82 (by trivial) ⟨rfl, rfl, rfl⟩
              · rw [if_pos hc8] at h
                refine zv_ild hB zd288_76 rfl rfl ?_
                refine zv_goto hB zd288_77 rfl ?_
                have hw : (x2, r6.2) = o := zi_rk (Option.some.inj h) hK
                subst hw
                exact hret _ _ _ _ _ zd288_82 (by trivial) ⟨rfl, rfl, rfl⟩
            · rw [if_pos hc7] at h
              refine zv_con hB zd288_66 rfl ?_
              refine zv_goto hB zd288_67 rfl ?_
              have hw : (0, r6.2) = o := zi_rk (Option.some.inj h) hK
              subst hw
              exact hret _ _ _ _ _ zd288_82 (by trivial) ⟨rfl, rfl, rfl⟩
          · rw [if_neg hc5] at h
            refine zv_goto hB zd288_40 rfl ?_
            refine zv_iincw hB zd288_83 rfl rfl ?_
            refine zv_goto hB zd288_86 rfl ?_
            exact ih _ _ _ _ q h hK
  unfold zf_M_byLaw at h
  refine zv_con hB zd288_0 rfl ?_
  refine zv_ist hB zd288_1 rfl rfl rfl ?_
  obtain ⟨q9, hq9, h⟩ := zi_bind h
  refine l0 _ _ _ _ _ q9 hq9 ?_
  rcases q9 with e10 | w11
  · replace h := zi_sl h
    show good 89 [.inr 1000, .inr 1000, .inr 1000, .inr 1000, .inr 1000] [] [.inl f0] [g0, g1, g2, g3, e10, g5, g6]
    refine zv_con hB zd288_89 rfl ?_
    have hw := Option.some.inj h
    subst hw
    exact hret _ _ _ _ _ zd288_90 (by trivial) ⟨rfl, rfl, rfl⟩
  · exact Option.some.inj h
end
section
/-! Methods as functions, and that they do what these do. -/
/-! M_sold (II)I -/
-- names: 0 StarTalesModel('arg', 0), 1 (0, 13)(0, 12, 26), 2 (0, 422)(0, 12, 0), 3 (0, 24)(0, 12, 49), 4 (0, 24)(0, 12, 50), 5 (0, 14)(0, 12, 21), 6 (0, 14)(0, 12, 23), 7 (0, 14)(0, 12, 24), 8 (0, 220)(0, 12, 20), 9 (0, 220)(0, 12, 25), 10 (0, 14)(0, 12, 22), 11 (0, 25000)(0, 12, 51)
-- fields: f0 = 0.clauses_; arrays: g0 = 1, g1 = 2, g2 = 3, g3 = 4, g4 = 5, g5 = 6, g6 = 7, g7 = 8, g8 = 9, g9 = 10, g10 = 11; out: [('ret', None), ('g', 0), ('g', 2), ('g', 3), ('g', 8), ('g', 10)]
abbrev zy_M_sold : zNL := (12, [(0, 12)], [(0, 12, 13, 0)], [(0, 12, 26, 1), (0, 12, 0, 2), (0, 12, 49, 3), (0, 12, 50, 4), (0, 12, 21, 5), (0, 12, 23, 6), (0, 12, 24, 7), (0, 12, 20, 8), (0, 12, 25, 9), (0, 12, 22, 10), (0, 12, 51, 11)], [(1, 0, 13, 0), (2, 0, 422, 1), (3, 0, 24, 2), (4, 0, 24, 3), (5, 0, 14, 4), (6, 0, 14, 5), (7, 0, 14, 6), (8, 0, 220, 7), (9, 0, 220, 8), (10, 0, 14, 9), (11, 0, 25000, 10)])
theorem zyw_M_sold : zv_wf zy_M_sold = true := by decide +kernel
theorem zye_M_sold : zv_ek2 zy_M_sold = true := by decide +kernel
def zf_M_sold_l0_b (f0 : Int) (g1 : (Int → Int)) (g4 : (Int → Int)) (g5 : (Int → Int)) (g6 : (Int → Int)) (g7 : (Int → Int)) (g9 : (Int → Int)) (rec : Int → (Int → Int) → (Int → Int) → (Int → Int) → (Int → Int) → Option ((Int → Int) × (Int → Int) × (Int → Int) × (Int → Int))) (x3 : Int) (g0 : (Int → Int)) (g2 : (Int → Int)) (g3 : (Int → Int)) (g8 : (Int → Int)) : Option ((Int → Int) × (Int → Int) × (Int → Int) × (Int → Int)) := if x3 < 24 then ((zf_M_feelsStar x3 g0 g1).bind fun r6 => ((zf_M_isTold x3 g1).bind fun r7 => (if r7 = 0 then (cond (zi_ix x3 24) ((zf_M_isTold x3 g1).bind fun r10 => (if r10 = 0 then (rec (zi_w (x3 + 1)) r6 (zv_up g2 x3 0) (zv_up g3 x3 0) g8) else ((zf_M_byLaw 103 99 f0 g4 g5 g6 g7 g8 r6 g9).bind fun r12 => (rec (zi_w (x3 + 1)) r6 (zv_up g2 x3 0) (zv_up g3 x3 r12.1) r12.2)))) none) else ((zf_M_byLaw 119 999 f0 g4 g5 g6 g7 g8 r6 g9).bind fun r13 => (cond (zi_ix x3 24) ((zf_M_isTold x3 g1).bind fun r15 => (if r15 = 0 then (rec (zi_w (x3 + 1)) r6 (zv_up g2 x3 r13.1) (zv_up g3 x3 0) r13.2) else ((zf_M_byLaw 103 99 f0 g4 g5 g6 g7 r13.2 r6 g9).bind fun r17 => (rec (zi_w (x3 + 1)) r6 (zv_up g2 x3 r13.1) (zv_up g3 x3 r17.1) r17.2)))) none))))) else (some (g0, g2, g3, g8))
def zf_M_sold_l0 (f0 : Int) (g1 : (Int → Int)) (g4 : (Int → Int)) (g5 : (Int → Int)) (g6 : (Int → Int)) (g7 : (Int → Int)) (g9 : (Int → Int)) : Nat → Int → (Int → Int) → (Int → Int) → (Int → Int) → (Int → Int) → Option ((Int → Int) × (Int → Int) × (Int → Int) × (Int → Int))
  | 0, _, _, _, _, _ => none
  | n + 1, x3, g0, g2, g3, g8 => zf_M_sold_l0_b f0 g1 g4 g5 g6 g7 g9 (zf_M_sold_l0 f0 g1 g4 g5 g6 g7 g9 n) x3 g0 g2 g3 g8
def zf_M_sold_l1_b (x1 : Int) (rec : Int → (Int → Int) → Option ((Int → Int))) (x3 : Int) (g10 : (Int → Int)) : Option ((Int → Int)) := if x1 < x3 then (some g10) else (cond (zi_ix x3 25000) (rec (zi_w (x3 + 1)) (zv_up g10 x3 0)) none)
def zf_M_sold_l1 (x1 : Int) : Nat → Int → (Int → Int) → Option ((Int → Int))
  | 0, _, _ => none
  | n + 1, x3, g10 => zf_M_sold_l1_b x1 (zf_M_sold_l1 x1 n) x3 g10
def zf_M_sold_l3_b (x1 : Int) (x3 : Int) (g1 : (Int → Int)) (g2 : (Int → Int)) (g3 : (Int → Int)) (rec : Int → (Int → Int) → Option ((Int → Int))) (x4 : Int) (g10 : (Int → Int)) : Option ((Int → Int)) := if x1 < x4 then (some g10) else (cond (zi_ix (zi_w ((zi_w (1000 * x3)) + x4)) 25000) ((zf_M_isTold x3 g1).bind fun r25 => (if r25 = 0 then (cond (zi_ix (zi_w ((zi_w (1000 * (zi_w (x3 + 1)))) + x4)) 25000) (rec (zi_w (x4 + 1)) (zv_up g10 (zi_w ((zi_w (1000 * (zi_w (x3 + 1)))) + x4)) (g10 (zi_w ((zi_w (1000 * x3)) + x4))))) none) else (cond (zi_ix x3 24) (if x4 < (g3 x3) then (cond (zi_ix (zi_w ((zi_w (1000 * (zi_w (x3 + 1)))) + x4)) 25000) (rec (zi_w (x4 + 1)) (zv_up g10 (zi_w ((zi_w (1000 * (zi_w (x3 + 1)))) + x4)) (g10 (zi_w ((zi_w (1000 * x3)) + x4))))) none) else (cond (zi_ix (zi_w ((zi_w ((zi_w (1000 * x3)) + x4)) - (g3 x3))) 25000) ((zf_M_max (g10 (zi_w ((zi_w (1000 * x3)) + x4))) (zi_w ((g2 x3) + (g10 (zi_w ((zi_w ((zi_w (1000 * x3)) + x4)) - (g3 x3))))))).bind fun r32 => (cond (zi_ix (zi_w ((zi_w (1000 * (zi_w (x3 + 1)))) + x4)) 25000) (rec (zi_w (x4 + 1)) (zv_up g10 (zi_w ((zi_w (1000 * (zi_w (x3 + 1)))) + x4)) r32)) none)) none)) none))) none)
def zf_M_sold_l3 (x1 : Int) (x3 : Int) (g1 : (Int → Int)) (g2 : (Int → Int)) (g3 : (Int → Int)) : Nat → Int → (Int → Int) → Option ((Int → Int))
  | 0, _, _ => none
  | n + 1, x4, g10 => zf_M_sold_l3_b x1 x3 g1 g2 g3 (zf_M_sold_l3 x1 x3 g1 g2 g3 n) x4 g10
def zf_M_sold_l2_b (x1 : Int) (g1 : (Int → Int)) (g2 : (Int → Int)) (g3 : (Int → Int)) (rec : Int → (Int → Int) → Option ((Int → Int))) (x3 : Int) (g10 : (Int → Int)) : Option ((Int → Int)) := if x3 < 24 then ((zf_M_sold_l3 x1 x3 g1 g2 g3 zi_fu 0 g10).bind fun q34 => (rec (zi_w (x3 + 1)) q34)) else (some g10)
def zf_M_sold_l2 (x1 : Int) (g1 : (Int → Int)) (g2 : (Int → Int)) (g3 : (Int → Int)) : Nat → Int → (Int → Int) → Option ((Int → Int))
  | 0, _, _ => none
  | n + 1, x3, g10 => zf_M_sold_l2_b x1 g1 g2 g3 (zf_M_sold_l2 x1 g1 g2 g3 n) x3 g10
def zf_M_sold_l4_b (g3 : (Int → Int)) (g10 : (Int → Int)) (rec : Int → Int → Int → Option (Int × Int)) (x3 : Int) (x4 : Int) (x5 : Int) : Option (Int × Int) := if x5 < 0 then (some (x3, x4)) else (cond (zi_ix (zi_w ((zi_w (1000 * x5)) + x3)) 25000) (cond (zi_ix (zi_w ((zi_w (1000 * (zi_w (x5 + 1)))) + x3)) 25000) (if (g10 (zi_w ((zi_w (1000 * x5)) + x3))) = (g10 (zi_w ((zi_w (1000 * (zi_w (x5 + 1)))) + x3))) then (rec x3 x4 (zi_w (x5 + (-1)))) else (cond (zi_ix x5 24) (rec (zi_w (x3 - (g3 x5))) (zi_or x4 (zi_shl 1 x5)) (zi_w (x5 + (-1)))) none)) none) none)
def zf_M_sold_l4 (g3 : (Int → Int)) (g10 : (Int → Int)) : Nat → Int → Int → Int → Option (Int × Int)
  | 0, _, _, _ => none
  | n + 1, x3, x4, x5 => zf_M_sold_l4_b g3 g10 (zf_M_sold_l4 g3 g10 n) x3 x4 x5
def zf_M_sold (x1 : Int) (x2 : Int) (f0 : Int) (g0 : (Int → Int)) (g1 : (Int → Int)) (g2 : (Int → Int)) (g3 : (Int → Int)) (g4 : (Int → Int)) (g5 : (Int → Int)) (g6 : (Int → Int)) (g7 : (Int → Int)) (g8 : (Int → Int)) (g9 : (Int → Int)) (g10 : (Int → Int)) : Option (Int × (Int → Int) × (Int → Int) × (Int → Int) × (Int → Int) × (Int → Int)) := (zf_M_in x1 0 999).bind fun r1 => (if r1 = 0 then (some ((-1), g0, g2, g3, g8, g10)) else ((zf_M_in x2 0 2).bind fun r3 => (if r3 = 0 then (some ((-1), g0, g2, g3, g8, g10)) else ((zf_M_sold_l0 f0 g1 g4 g5 g6 g7 g9 zi_fu 0 g0 g2 g3 g8).bind fun q18 => ((zf_M_sold_l1 x1 zi_fu 0 g10).bind fun q21 => ((zf_M_sold_l2 x1 g1 q18.2.1 q18.2.2.1 zi_fu 0 q21).bind fun q35 => ((zf_M_sold_l4 q18.2.2.1 q35 zi_fu x1 0 23).bind fun q41 => (if x2 = 0 then (cond (zi_ix (zi_w (24000 + x1)) 25000) (some ((q35 (zi_w (24000 + x1))), q18.1, q18.2.1, q18.2.2.1, q18.2.2.2, q35)) none) else (if x2 = 1 then (some (q41.2, q18.1, q18.2.1, q18.2.2.1, q18.2.2.2, q35)) else (some ((zi_w (x1 - q41.1)), q18.1, q18.2.1, q18.2.2.1, q18.2.2.2, q35)))))))))))
theorem zd287_0 : decode zxm287.2.1 0 = .ok (.iload_n 1, 1) := by decide +kernel
theorem zd287_1 : decode zxm287.2.1 1 = .ok (.iconst 0, 1) := by decide +kernel
theorem zd287_2 : decode zxm287.2.1 2 = .ok (.sipush 999, 3) := by decide +kernel
theorem zd287_5 : decode zxm287.2.1 5 = .ok (.invokestatic 150, 3) := by decide +kernel
theorem zd287_8 : decode zxm287.2.1 8 = .ok (.ifCond .eq 12, 3) := by decide +kernel
theorem zd287_11 : decode zxm287.2.1 11 = .ok (.iload_n 2, 1) := by decide +kernel
theorem zd287_12 : decode zxm287.2.1 12 = .ok (.iconst 0, 1) := by decide +kernel
theorem zd287_13 : decode zxm287.2.1 13 = .ok (.iconst 2, 1) := by decide +kernel
theorem zd287_14 : decode zxm287.2.1 14 = .ok (.invokestatic 150, 3) := by decide +kernel
theorem zd287_17 : decode zxm287.2.1 17 = .ok (.ifCond .ne 5, 3) := by decide +kernel
theorem zd287_20 : decode zxm287.2.1 20 = .ok (.iconst (-1), 1) := by decide +kernel
theorem zd287_21 : decode zxm287.2.1 21 = .ok (.ireturn, 1) := by decide +kernel
theorem zd287_22 : decode zxm287.2.1 22 = .ok (.iconst 0, 1) := by decide +kernel
theorem zd287_23 : decode zxm287.2.1 23 = .ok (.istore_n 3, 1) := by decide +kernel
theorem zd287_24 : decode zxm287.2.1 24 = .ok (.iload_n 3, 1) := by decide +kernel
theorem zd287_25 : decode zxm287.2.1 25 = .ok (.bipush 24, 2) := by decide +kernel
theorem zd287_27 : decode zxm287.2.1 27 = .ok (.if_icmp .ge 67, 3) := by decide +kernel
theorem zd287_30 : decode zxm287.2.1 30 = .ok (.aload_n 0, 1) := by decide +kernel
theorem zd287_31 : decode zxm287.2.1 31 = .ok (.iload_n 3, 1) := by decide +kernel
theorem zd287_32 : decode zxm287.2.1 32 = .ok (.invokevirtual 287, 3) := by decide +kernel
theorem zd287_35 : decode zxm287.2.1 35 = .ok (.aload_n 0, 1) := by decide +kernel
theorem zd287_36 : decode zxm287.2.1 36 = .ok (.getfield 104, 3) := by decide +kernel
theorem zd287_39 : decode zxm287.2.1 39 = .ok (.iload_n 3, 1) := by decide +kernel
theorem zd287_40 : decode zxm287.2.1 40 = .ok (.aload_n 0, 1) := by decide +kernel
theorem zd287_41 : decode zxm287.2.1 41 = .ok (.iload_n 3, 1) := by decide +kernel
theorem zd287_42 : decode zxm287.2.1 42 = .ok (.invokevirtual 157, 3) := by decide +kernel
theorem zd287_45 : decode zxm287.2.1 45 = .ok (.ifCond .eq 15, 3) := by decide +kernel
theorem zd287_48 : decode zxm287.2.1 48 = .ok (.aload_n 0, 1) := by decide +kernel
theorem zd287_49 : decode zxm287.2.1 49 = .ok (.bipush 119, 2) := by decide +kernel
theorem zd287_51 : decode zxm287.2.1 51 = .ok (.sipush 999, 3) := by decide +kernel
theorem zd287_54 : decode zxm287.2.1 54 = .ok (.invokevirtual 408, 3) := by decide +kernel
theorem zd287_57 : decode zxm287.2.1 57 = .ok (.goto 4, 3) := by decide +kernel
theorem zd287_60 : decode zxm287.2.1 60 = .ok (.iconst 0, 1) := by decide +kernel
theorem zd287_61 : decode zxm287.2.1 61 = .ok (.iastore, 1) := by decide +kernel
theorem zd287_62 : decode zxm287.2.1 62 = .ok (.aload_n 0, 1) := by decide +kernel
theorem zd287_63 : decode zxm287.2.1 63 = .ok (.getfield 107, 3) := by decide +kernel
theorem zd287_66 : decode zxm287.2.1 66 = .ok (.iload_n 3, 1) := by decide +kernel
theorem zd287_67 : decode zxm287.2.1 67 = .ok (.aload_n 0, 1) := by decide +kernel
theorem zd287_68 : decode zxm287.2.1 68 = .ok (.iload_n 3, 1) := by decide +kernel
theorem zd287_69 : decode zxm287.2.1 69 = .ok (.invokevirtual 157, 3) := by decide +kernel
theorem zd287_72 : decode zxm287.2.1 72 = .ok (.ifCond .eq 14, 3) := by decide +kernel
theorem zd287_75 : decode zxm287.2.1 75 = .ok (.aload_n 0, 1) := by decide +kernel
theorem zd287_76 : decode zxm287.2.1 76 = .ok (.bipush 103, 2) := by decide +kernel
theorem zd287_78 : decode zxm287.2.1 78 = .ok (.bipush 99, 2) := by decide +kernel
theorem zd287_80 : decode zxm287.2.1 80 = .ok (.invokevirtual 408, 3) := by decide +kernel
theorem zd287_83 : decode zxm287.2.1 83 = .ok (.goto 4, 3) := by decide +kernel
theorem zd287_86 : decode zxm287.2.1 86 = .ok (.iconst 0, 1) := by decide +kernel
theorem zd287_87 : decode zxm287.2.1 87 = .ok (.iastore, 1) := by decide +kernel
theorem zd287_88 : decode zxm287.2.1 88 = .ok (.iinc 3 1, 3) := by decide +kernel
theorem zd287_91 : decode zxm287.2.1 91 = .ok (.goto (-67), 3) := by decide +kernel
theorem zd287_94 : decode zxm287.2.1 94 = .ok (.iconst 0, 1) := by decide +kernel
theorem zd287_95 : decode zxm287.2.1 95 = .ok (.istore_n 3, 1) := by decide +kernel
theorem zd287_96 : decode zxm287.2.1 96 = .ok (.iload_n 3, 1) := by decide +kernel
theorem zd287_97 : decode zxm287.2.1 97 = .ok (.iload_n 1, 1) := by decide +kernel
theorem zd287_98 : decode zxm287.2.1 98 = .ok (.if_icmp .gt 16, 3) := by decide +kernel
theorem zd287_101 : decode zxm287.2.1 101 = .ok (.aload_n 0, 1) := by decide +kernel
theorem zd287_102 : decode zxm287.2.1 102 = .ok (.getfield 110, 3) := by decide +kernel
theorem zd287_105 : decode zxm287.2.1 105 = .ok (.iload_n 3, 1) := by decide +kernel
theorem zd287_106 : decode zxm287.2.1 106 = .ok (.iconst 0, 1) := by decide +kernel
theorem zd287_107 : decode zxm287.2.1 107 = .ok (.iastore, 1) := by decide +kernel
theorem zd287_108 : decode zxm287.2.1 108 = .ok (.iinc 3 1, 3) := by decide +kernel
theorem zd287_111 : decode zxm287.2.1 111 = .ok (.goto (-15), 3) := by decide +kernel
theorem zd287_114 : decode zxm287.2.1 114 = .ok (.iconst 0, 1) := by decide +kernel
theorem zd287_115 : decode zxm287.2.1 115 = .ok (.istore_n 3, 1) := by decide +kernel
theorem zd287_116 : decode zxm287.2.1 116 = .ok (.iload_n 3, 1) := by decide +kernel
theorem zd287_117 : decode zxm287.2.1 117 = .ok (.bipush 24, 2) := by decide +kernel
theorem zd287_119 : decode zxm287.2.1 119 = .ok (.if_icmp .ge 110, 3) := by decide +kernel
theorem zd287_122 : decode zxm287.2.1 122 = .ok (.iconst 0, 1) := by decide +kernel
theorem zd287_123 : decode zxm287.2.1 123 = .ok (.istore 4, 2) := by decide +kernel
theorem zd287_125 : decode zxm287.2.1 125 = .ok (.iload 4, 2) := by decide +kernel
theorem zd287_127 : decode zxm287.2.1 127 = .ok (.iload_n 1, 1) := by decide +kernel
theorem zd287_128 : decode zxm287.2.1 128 = .ok (.if_icmp .gt 95, 3) := by decide +kernel
theorem zd287_131 : decode zxm287.2.1 131 = .ok (.aload_n 0, 1) := by decide +kernel
theorem zd287_132 : decode zxm287.2.1 132 = .ok (.getfield 110, 3) := by decide +kernel
theorem zd287_135 : decode zxm287.2.1 135 = .ok (.sipush 1000, 3) := by decide +kernel
theorem zd287_138 : decode zxm287.2.1 138 = .ok (.iload_n 3, 1) := by decide +kernel
theorem zd287_139 : decode zxm287.2.1 139 = .ok (.imul, 1) := by decide +kernel
theorem zd287_140 : decode zxm287.2.1 140 = .ok (.iload 4, 2) := by decide +kernel
theorem zd287_142 : decode zxm287.2.1 142 = .ok (.iadd, 1) := by decide +kernel
theorem zd287_143 : decode zxm287.2.1 143 = .ok (.iaload, 1) := by decide +kernel
theorem zd287_144 : decode zxm287.2.1 144 = .ok (.istore 5, 2) := by decide +kernel
theorem zd287_146 : decode zxm287.2.1 146 = .ok (.aload_n 0, 1) := by decide +kernel
theorem zd287_147 : decode zxm287.2.1 147 = .ok (.getfield 110, 3) := by decide +kernel
theorem zd287_150 : decode zxm287.2.1 150 = .ok (.sipush 1000, 3) := by decide +kernel
theorem zd287_153 : decode zxm287.2.1 153 = .ok (.iload_n 3, 1) := by decide +kernel
theorem zd287_154 : decode zxm287.2.1 154 = .ok (.iconst 1, 1) := by decide +kernel
theorem zd287_155 : decode zxm287.2.1 155 = .ok (.iadd, 1) := by decide +kernel
theorem zd287_156 : decode zxm287.2.1 156 = .ok (.imul, 1) := by decide +kernel
theorem zd287_157 : decode zxm287.2.1 157 = .ok (.iload 4, 2) := by decide +kernel
theorem zd287_159 : decode zxm287.2.1 159 = .ok (.iadd, 1) := by decide +kernel
theorem zd287_160 : decode zxm287.2.1 160 = .ok (.aload_n 0, 1) := by decide +kernel
theorem zd287_161 : decode zxm287.2.1 161 = .ok (.iload_n 3, 1) := by decide +kernel
theorem zd287_162 : decode zxm287.2.1 162 = .ok (.invokevirtual 157, 3) := by decide +kernel
theorem zd287_165 : decode zxm287.2.1 165 = .ok (.ifCond .eq 49, 3) := by decide +kernel
theorem zd287_168 : decode zxm287.2.1 168 = .ok (.aload_n 0, 1) := by decide +kernel
theorem zd287_169 : decode zxm287.2.1 169 = .ok (.getfield 107, 3) := by decide +kernel
theorem zd287_172 : decode zxm287.2.1 172 = .ok (.iload_n 3, 1) := by decide +kernel
theorem zd287_173 : decode zxm287.2.1 173 = .ok (.iaload, 1) := by decide +kernel
theorem zd287_174 : decode zxm287.2.1 174 = .ok (.iload 4, 2) := by decide +kernel
theorem zd287_176 : decode zxm287.2.1 176 = .ok (.if_icmp .gt 38, 3) := by decide +kernel
theorem zd287_179 : decode zxm287.2.1 179 = .ok (.iload 5, 2) := by decide +kernel
theorem zd287_181 : decode zxm287.2.1 181 = .ok (.aload_n 0, 1) := by decide +kernel
theorem zd287_182 : decode zxm287.2.1 182 = .ok (.getfield 104, 3) := by decide +kernel
theorem zd287_185 : decode zxm287.2.1 185 = .ok (.iload_n 3, 1) := by decide +kernel
theorem zd287_186 : decode zxm287.2.1 186 = .ok (.iaload, 1) := by decide +kernel
theorem zd287_187 : decode zxm287.2.1 187 = .ok (.aload_n 0, 1) := by decide +kernel
theorem zd287_188 : decode zxm287.2.1 188 = .ok (.getfield 110, 3) := by decide +kernel
theorem zd287_191 : decode zxm287.2.1 191 = .ok (.sipush 1000, 3) := by decide +kernel
theorem zd287_194 : decode zxm287.2.1 194 = .ok (.iload_n 3, 1) := by decide +kernel
theorem zd287_195 : decode zxm287.2.1 195 = .ok (.imul, 1) := by decide +kernel
theorem zd287_196 : decode zxm287.2.1 196 = .ok (.iload 4, 2) := by decide +kernel
theorem zd287_198 : decode zxm287.2.1 198 = .ok (.iadd, 1) := by decide +kernel
theorem zd287_199 : decode zxm287.2.1 199 = .ok (.aload_n 0, 1) := by decide +kernel
theorem zd287_200 : decode zxm287.2.1 200 = .ok (.getfield 107, 3) := by decide +kernel
theorem zd287_203 : decode zxm287.2.1 203 = .ok (.iload_n 3, 1) := by decide +kernel
theorem zd287_204 : decode zxm287.2.1 204 = .ok (.iaload, 1) := by decide +kernel
theorem zd287_205 : decode zxm287.2.1 205 = .ok (.isub, 1) := by decide +kernel
theorem zd287_206 : decode zxm287.2.1 206 = .ok (.iaload, 1) := by decide +kernel
theorem zd287_207 : decode zxm287.2.1 207 = .ok (.iadd, 1) := by decide +kernel
theorem zd287_208 : decode zxm287.2.1 208 = .ok (.invokestatic 324, 3) := by decide +kernel
theorem zd287_211 : decode zxm287.2.1 211 = .ok (.goto 5, 3) := by decide +kernel
theorem zd287_214 : decode zxm287.2.1 214 = .ok (.iload 5, 2) := by decide +kernel
theorem zd287_216 : decode zxm287.2.1 216 = .ok (.iastore, 1) := by decide +kernel
theorem zd287_217 : decode zxm287.2.1 217 = .ok (.iinc 4 1, 3) := by decide +kernel
theorem zd287_220 : decode zxm287.2.1 220 = .ok (.goto (-95), 3) := by decide +kernel
theorem zd287_223 : decode zxm287.2.1 223 = .ok (.iinc 3 1, 3) := by decide +kernel
theorem zd287_226 : decode zxm287.2.1 226 = .ok (.goto (-110), 3) := by decide +kernel
theorem zd287_229 : decode zxm287.2.1 229 = .ok (.iload_n 1, 1) := by decide +kernel
theorem zd287_230 : decode zxm287.2.1 230 = .ok (.istore_n 3, 1) := by decide +kernel
theorem zd287_231 : decode zxm287.2.1 231 = .ok (.iconst 0, 1) := by decide +kernel
theorem zd287_232 : decode zxm287.2.1 232 = .ok (.istore 4, 2) := by decide +kernel
theorem zd287_234 : decode zxm287.2.1 234 = .ok (.bipush 23, 2) := by decide +kernel
theorem zd287_236 : decode zxm287.2.1 236 = .ok (.istore 5, 2) := by decide +kernel
theorem zd287_238 : decode zxm287.2.1 238 = .ok (.iload 5, 2) := by decide +kernel
theorem zd287_240 : decode zxm287.2.1 240 = .ok (.ifCond .lt 62, 3) := by decide +kernel
theorem zd287_243 : decode zxm287.2.1 243 = .ok (.aload_n 0, 1) := by decide +kernel
theorem zd287_244 : decode zxm287.2.1 244 = .ok (.getfield 110, 3) := by decide +kernel
theorem zd287_247 : decode zxm287.2.1 247 = .ok (.sipush 1000, 3) := by decide +kernel
theorem zd287_250 : decode zxm287.2.1 250 = .ok (.iload 5, 2) := by decide +kernel
theorem zd287_252 : decode zxm287.2.1 252 = .ok (.imul, 1) := by decide +kernel
theorem zd287_253 : decode zxm287.2.1 253 = .ok (.iload_n 3, 1) := by decide +kernel
theorem zd287_254 : decode zxm287.2.1 254 = .ok (.iadd, 1) := by decide +kernel
theorem zd287_255 : decode zxm287.2.1 255 = .ok (.iaload, 1) := by decide +kernel
theorem zd287_256 : decode zxm287.2.1 256 = .ok (.aload_n 0, 1) := by decide +kernel
theorem zd287_257 : decode zxm287.2.1 257 = .ok (.getfield 110, 3) := by decide +kernel
theorem zd287_260 : decode zxm287.2.1 260 = .ok (.sipush 1000, 3) := by decide +kernel
theorem zd287_263 : decode zxm287.2.1 263 = .ok (.iload 5, 2) := by decide +kernel
theorem zd287_265 : decode zxm287.2.1 265 = .ok (.iconst 1, 1) := by decide +kernel
theorem zd287_266 : decode zxm287.2.1 266 = .ok (.iadd, 1) := by decide +kernel
theorem zd287_267 : decode zxm287.2.1 267 = .ok (.imul, 1) := by decide +kernel
theorem zd287_268 : decode zxm287.2.1 268 = .ok (.iload_n 3, 1) := by decide +kernel
theorem zd287_269 : decode zxm287.2.1 269 = .ok (.iadd, 1) := by decide +kernel
theorem zd287_270 : decode zxm287.2.1 270 = .ok (.iaload, 1) := by decide +kernel
theorem zd287_271 : decode zxm287.2.1 271 = .ok (.if_icmp .ne 6, 3) := by decide +kernel
theorem zd287_274 : decode zxm287.2.1 274 = .ok (.goto 22, 3) := by decide +kernel
theorem zd287_277 : decode zxm287.2.1 277 = .ok (.iload 4, 2) := by decide +kernel
theorem zd287_279 : decode zxm287.2.1 279 = .ok (.iconst 1, 1) := by decide +kernel
theorem zd287_280 : decode zxm287.2.1 280 = .ok (.iload 5, 2) := by decide +kernel
theorem zd287_282 : decode zxm287.2.1 282 = .ok (.ishl, 1) := by decide +kernel
theorem zd287_283 : decode zxm287.2.1 283 = .ok (.ior, 1) := by decide +kernel
theorem zd287_284 : decode zxm287.2.1 284 = .ok (.istore 4, 2) := by decide +kernel
theorem zd287_286 : decode zxm287.2.1 286 = .ok (.iload_n 3, 1) := by decide +kernel
theorem zd287_287 : decode zxm287.2.1 287 = .ok (.aload_n 0, 1) := by decide +kernel
theorem zd287_288 : decode zxm287.2.1 288 = .ok (.getfield 107, 3) := by decide +kernel
theorem zd287_291 : decode zxm287.2.1 291 = .ok (.iload 5, 2) := by decide +kernel
theorem zd287_293 : decode zxm287.2.1 293 = .ok (.iaload, 1) := by decide +kernel
theorem zd287_294 : decode zxm287.2.1 294 = .ok (.isub, 1) := by decide +kernel
theorem zd287_295 : decode zxm287.2.1 295 = .ok (.istore_n 3, 1) := by decide +kernel
theorem zd287_296 : decode zxm287.2.1 296 = .ok (.iinc 5 (-1), 3) := by decide +kernel
theorem zd287_299 : decode zxm287.2.1 299 = .ok (.goto (-61), 3) := by decide +kernel
theorem zd287_302 : decode zxm287.2.1 302 = .ok (.iload_n 2, 1) := by decide +kernel
theorem zd287_303 : decode zxm287.2.1 303 = .ok (.ifCond .ne 16, 3) := by decide +kernel
theorem zd287_306 : decode zxm287.2.1 306 = .ok (.aload_n 0, 1) := by decide +kernel
theorem zd287_307 : decode zxm287.2.1 307 = .ok (.getfield 110, 3) := by decide +kernel
theorem zd287_310 : decode zxm287.2.1 310 = .ok (.sipush 24000, 3) := by decide +kernel
theorem zd287_313 : decode zxm287.2.1 313 = .ok (.iload_n 1, 1) := by decide +kernel
theorem zd287_314 : decode zxm287.2.1 314 = .ok (.iadd, 1) := by decide +kernel
theorem zd287_315 : decode zxm287.2.1 315 = .ok (.iaload, 1) := by decide +kernel
theorem zd287_316 : decode zxm287.2.1 316 = .ok (.goto 16, 3) := by decide +kernel
theorem zd287_319 : decode zxm287.2.1 319 = .ok (.iload_n 2, 1) := by decide +kernel
theorem zd287_320 : decode zxm287.2.1 320 = .ok (.iconst 1, 1) := by decide +kernel
theorem zd287_321 : decode zxm287.2.1 321 = .ok (.if_icmp .ne 8, 3) := by decide +kernel
theorem zd287_324 : decode zxm287.2.1 324 = .ok (.iload 4, 2) := by decide +kernel
theorem zd287_326 : decode zxm287.2.1 326 = .ok (.goto 6, 3) := by decide +kernel
theorem zd287_329 : decode zxm287.2.1 329 = .ok (.iload_n 1, 1) := by decide +kernel
theorem zd287_330 : decode zxm287.2.1 330 = .ok (.iload_n 3, 1) := by decide +kernel
theorem zd287_331 : decode zxm287.2.1 331 = .ok (.isub, 1) := by decide +kernel
theorem zd287_332 : decode zxm287.2.1 332 = .ok (.ireturn, 1) := by decide +kernel
theorem zt_M_sold {x1 : Int} {x2 : Int} {f0 : Int} {g0 : (Int → Int)} {g1 : (Int → Int)} {g2 : (Int → Int)} {g3 : (Int → Int)} {g4 : (Int → Int)} {g5 : (Int → Int)} {g6 : (Int → Int)} {g7 : (Int → Int)} {g8 : (Int → Int)} {g9 : (Int → Int)} {g10 : (Int → Int)} {o : Int × (Int → Int) × (Int → Int) × (Int → Int) × (Int → Int) × (Int → Int)} (h : zf_M_sold x1 x2 f0 g0 g1 g2 g3 g4 g5 g6 g7 g8 g9 g10 = some o) : zv_Fn z_TB z_cl z_KX zy_M_sold zxm287 (3, 180) [.inr 0, .inl x1, .inl x2] [.inl f0] [g0, g1, g2, g3, g4, g5, g6, g7, g8, g9, g10] (some o.1) [.inl f0] [o.2.1, g1, o.2.2.1, o.2.2.2.1, g4, g5, g6, g7, o.2.2.2.2.1, g9, o.2.2.2.2.2] := zv_meth (K := (z_KF13, z_KC13, z_KL13, z_KT13, [], [], [], none)) (FT := z_FT) (MT := z_MT) (n := 3) zxp287 (z_ks13 _ (fun _ h => List.mem_cons_of_mem _ h) _ _ _ _ (fun j r h _ => by cases h)) (fun _ _ => zs_KX_p) zyw_M_sold (fun va F G h => by obtain ⟨rfl, _⟩ := h; rfl) (fun va F G h => by obtain ⟨rfl, _⟩ := h; rfl) rfl fun good va F G hB hret hvret hP => by
  obtain ⟨rfl, rfl, rfl⟩ := hP
  have l0 : ∀ (n : Nat) (x1 : Int) (x2 : Int) (x3 : Int) (g0 : (Int → Int)) (g2 : (Int → Int)) (g3 : (Int → Int)) (g8 : (Int → Int)) (g10 : (Int → Int)) (q : (Int → Int) × (Int → Int) × (Int → Int) × (Int → Int)), zf_M_sold_l0 f0 g1 g4 g5 g6 g7 g9 n x3 g0 g2 g3 g8 = some q → (good 94 [.inr 0, .inl x1, .inl x2, .inr 1000, .inr 1000, .inr 1000] [] [.inl f0] [q.1, g1, q.2.1, q.2.2.1, g4, g5, g6, g7, q.2.2.2, g9, g10]) → good 24 [.inr 0, .inl x1, .inl x2, .inl x3, .inr 1000, .inr 1000] [] [.inl f0] [g0, g1, g2, g3, g4, g5, g6, g7, g8, g9, g10] := by
    intro n
    induction n with
    | zero => intro x1 x2 x3 g0 g2 g3 g8 g10 q h; exact absurd (show none = some q from h) (fun h => by cases h)
    | succ n ih =>
      intro x1 x2 x3 g0 g2 g3 g8 g10 q h hK
      replace h : zf_M_sold_l0_b f0 g1 g4 g5 g6 g7 g9 (zf_M_sold_l0 f0 g1 g4 g5 g6 g7 g9 n) x3 g0 g2 g3 g8 = some q := h
      unfold zf_M_sold_l0_b at h
      refine zv_ild hB zd287_24 rfl rfl ?_
      refine zv_con hB zd287_25 rfl ?_
      refine zv_cge hB zd287_27 rfl (fun hc5 => ?_) (fun hc5 => ?_)
      · rw [if_neg (Int.not_lt.mpr hc5)] at h
        have hq := Option.some.inj h
        subst hq
        refine zv_wk hB (L' := [.inr 0, .inl x1, .inl x2, .inr 1000, .inr 1000, .inr 1000]) (F' := [.inl f0]) ⟨fun _ => rfl, fun _ => rfl, fun _ => rfl, fun (h : zv_is (.inr 1000)) => (Nat.lt_irrefl 1000 h).elim, fun (h : zv_is (.inr 1000)) => (Nat.lt_irrefl 1000 h).elim, fun (h : zv_is (.inr 1000)) => (Nat.lt_irrefl 1000 h).elim, trivial⟩ ⟨fun _ => rfl, trivial⟩ ?_
        exact hK
      · rw [if_pos hc5] at h
        refine zv_ald hB zd287_30 rfl rfl rfl ?_
        refine zv_ild hB zd287_31 rfl rfl ?_
        obtain ⟨r6, hr6, h⟩ := zi_bind h
        refine zv_cv hB (zv_emq (va2 := [.inr 0, .inl x3]) (F := [.inl f0]) (F' := [.inl f0]) (G := [g0, g1, g2, g3, g4, g5, g6, g7, g8, g9, g10]) (G' := [r6, g1, g2, g3, g4, g5, g6, g7, g8, g9, g10]) (ρ := [0, 1, 2]) (φ := []) (ψ := [0, 1]) [none] [some 0, some 1, none, none, none, none, none, none, none, none, none] zyw_M_feelsStar zyw_M_sold zye_M_sold (by decide +kernel) (zt_M_feelsStar hr6) trivial ⟨rfl, rfl, trivial⟩ rfl rfl rfl rfl rfl rfl rfl) zd287_32 zxt245 rfl (by decide) (by decide) rfl ?_
        refine zv_ald hB zd287_35 rfl rfl rfl ?_
        refine zv_getr hB zd287_36 rfl ?_
        refine zv_ild hB zd287_39 rfl rfl ?_
        refine zv_ald hB zd287_40 rfl rfl rfl ?_
        refine zv_ild hB zd287_41 rfl rfl ?_
        obtain ⟨r7, hr7, h⟩ := zi_bind h
        refine zv_cv hB (zv_emq (va2 := [.inr 0, .inl x3]) (F := [.inl f0]) (F' := [.inl f0]) (G := [r6, g1, g2, g3, g4, g5, g6, g7, g8, g9, g10]) (G' := [r6, g1, g2, g3, g4, g5, g6, g7, g8, g9, g10]) (ρ := [0, 2]) (φ := []) (ψ := [1]) [none] [none, some 0, none, none, none, none, none, none, none, none, none] zyw_M_isTold zyw_M_sold zye_M_sold (by decide +kernel) (zt_M_isTold hr7) trivial ⟨rfl, trivial⟩ rfl rfl rfl rfl rfl rfl rfl) zd287_42 zxt203 rfl (by decide) (by decide) rfl ?_
        refine zv_zeq hB zd287_45 rfl (fun hc8 => ?_) (fun hc8 => ?_)
        · rw [if_pos hc8] at h
          refine zv_con hB zd287_60 rfl ?_
          obtain ⟨c9, h⟩ := zi_if h
          refine zv_iast hB zd287_61 rfl rfl (zi_ix_ok c9).1 (zi_ix_ok c9).2 ?_
          refine zv_ald hB zd287_62 rfl rfl rfl ?_
          refine zv_getr hB zd287_63 rfl ?_
          refine zv_ild hB zd287_66 rfl rfl ?_
          refine zv_ald hB zd287_67 rfl rfl rfl ?_
          refine zv_ild hB zd287_68 rfl rfl ?_
          obtain ⟨r10, hr10, h⟩ := zi_bind h
          refine zv_cv hB (zv_emq (va2 := [.inr 0, .inl x3]) (F := [.inl f0]) (F' := [.inl f0]) (G := [r6, g1, (zv_up g2 x3 0), g3, g4, g5, g6, g7, g8, g9, g10]) (G' := [r6, g1, (zv_up g2 x3 0), g3, g4, g5, g6, g7, g8, g9, g10]) (ρ := [0, 2]) (φ := []) (ψ := [1]) [none] [none, some 0, none, none, none, none, none, none, none, none, none] zyw_M_isTold zyw_M_sold zye_M_sold (by decide +kernel) (zt_M_isTold hr10) trivial ⟨rfl, trivial⟩ rfl rfl rfl rfl rfl rfl rfl) zd287_69 zxt203 rfl (by decide) (by decide) rfl ?_
          refine zv_zeq hB zd287_72 rfl (fun hc11 => ?_) (fun hc11 => ?_)
          · rw [if_pos hc11] at h
            refine zv_con hB zd287_86 rfl ?_
            refine zv_iast hB zd287_87 rfl rfl (zi_ix_ok c9).1 (zi_ix_ok c9).2 ?_
            refine zv_iincw hB zd287_88 rfl rfl ?_
            refine zv_goto hB zd287_91 rfl ?_
            exact ih _ _ _ _ _ _ _ _ q h hK
          · rw [if_neg hc11] at h
            refine zv_ald hB zd287_75 rfl rfl rfl ?_
            refine zv_con hB zd287_76 rfl ?_
            refine zv_con hB zd287_78 rfl ?_
            obtain ⟨r12, hr12, h⟩ := zi_bind h
            refine zv_cv hB (zv_emq (va2 := [.inr 0, .inl 103, .inl 99]) (F := [.inl f0]) (F' := [.inl f0]) (G := [r6, g1, (zv_up g2 x3 0), g3, g4, g5, g6, g7, g8, g9, g10]) (G' := [r6, g1, (zv_up g2 x3 0), g3, g4, g5, g6, g7, r12.2, g9, g10]) (ρ := [0, 5, 6, 7, 8, 9, 1, 10]) (φ := [0]) (ψ := [4, 5, 6, 7, 8, 0, 9]) [some 0] [some 5, none, none, none, some 0, some 1, some 2, some 3, some 4, some 6, none] zyw_M_byLaw zyw_M_sold zye_M_sold (by decide +kernel) (zt_M_byLaw hr12) ⟨⟨_, rfl, fun _ => rfl⟩, trivial⟩ ⟨rfl, rfl, rfl, rfl, rfl, rfl, rfl, trivial⟩ rfl rfl rfl rfl rfl rfl rfl) zd287_80 zxt288 rfl (by decide) (by decide) rfl ?_
            refine zv_goto hB zd287_83 rfl ?_
            refine zv_iast hB zd287_87 rfl rfl (zi_ix_ok c9).1 (zi_ix_ok c9).2 ?_
            refine zv_iincw hB zd287_88 rfl rfl ?_
            refine zv_goto hB zd287_91 rfl ?_
            exact ih _ _ _ _ _ _ _ _ q h hK
        · rw [if_neg hc8] at h
          refine zv_ald hB zd287_48 rfl rfl rfl ?_
          refine zv_con hB zd287_49 rfl ?_
          refine zv_con hB zd287_51 rfl ?_
          obtain ⟨r13, hr13, h⟩ := zi_bind h
          refine zv_cv hB (zv_emq (va2 := [.inr 0, .inl 119, .inl 999]) (F := [.inl f0]) (F' := [.inl f0]) (G := [r6, g1, g2, g3, g4, g5, g6, g7, g8, g9, g10]) (G' := [r6, g1, g2, g3, g4, g5, g6, g7, r13.2, g9, g10]) (ρ := [0, 5, 6, 7, 8, 9, 1, 10]) (φ := [0]) (ψ := [4, 5, 6, 7, 8, 0, 9]) [some 0] [some 5, none, none, none, some 0, some 1, some 2, some 3, some 4, some 6, none] zyw_M_byLaw zyw_M_sold zye_M_sold (by decide +kernel) (zt_M_byLaw hr13) ⟨⟨_, rfl, fun _ => rfl⟩, trivial⟩ ⟨rfl, rfl, rfl, rfl, rfl, rfl, rfl, trivial⟩ rfl rfl rfl rfl rfl rfl rfl) zd287_54 zxt288 rfl (by decide) (by decide) rfl ?_
          refine zv_goto hB zd287_57 rfl ?_
          obtain ⟨c14, h⟩ := zi_if h
          refine zv_iast hB zd287_61 rfl rfl (zi_ix_ok c14).1 (zi_ix_ok c14).2 ?_
          refine zv_ald hB zd287_62 rfl rfl rfl ?_
          refine zv_getr hB zd287_63 rfl ?_
          refine zv_ild hB zd287_66 rfl rfl ?_
          refine zv_ald hB zd287_67 rfl rfl rfl ?_
          refine zv_ild hB zd287_68 rfl rfl ?_
          obtain ⟨r15, hr15, h⟩ := zi_bind h
          refine zv_cv hB (zv_emq (va2 := [.inr 0, .inl x3]) (F := [.inl f0]) (F' := [.inl f0]) (G := [r6, g1, (zv_up g2 x3 r13.1), g3, g4, g5, g6, g7, r13.2, g9, g10]) (G' := [r6, g1, (zv_up g2 x3 r13.1), g3, g4, g5, g6, g7, r13.2, g9, g10]) (ρ := [0, 2]) (φ := []) (ψ := [1]) [none] [none, some 0, none, none, none, none, none, none, none, none, none] zyw_M_isTold zyw_M_sold zye_M_sold (by decide +kernel) (zt_M_isTold hr15) trivial ⟨rfl, trivial⟩ rfl rfl rfl rfl rfl rfl rfl) zd287_69 zxt203 rfl (by decide) (by decide) rfl ?_
          refine zv_zeq hB zd287_72 rfl (fun hc16 => ?_) (fun hc16 => ?_)
          · rw [if_pos hc16] at h
            refine zv_con hB zd287_86 rfl ?_
            refine zv_iast hB zd287_87 rfl rfl (zi_ix_ok c14).1 (zi_ix_ok c14).2 ?_
            refine zv_iincw hB zd287_88 rfl rfl ?_
            refine zv_goto hB zd287_91 rfl ?_
            exact ih _ _ _ _ _ _ _ _ q h hK
          · rw [if_neg hc16] at h
            refine zv_ald hB zd287_75 rfl rfl rfl ?_
            refine zv_con hB zd287_76 rfl ?_
            refine zv_con hB zd287_78 rfl ?_
            obtain ⟨r17, hr17, h⟩ := zi_bind h
            refine zv_cv hB (zv_emq (va2 := [.inr 0, .inl 103, .inl 99]) (F := [.inl f0]) (F' := [.inl f0]) (G := [r6, g1, (zv_up g2 x3 r13.1), g3, g4, g5, g6, g7, r13.2, g9, g10]) (G' := [r6, g1, (zv_up g2 x3 r13.1), g3, g4, g5, g6, g7, r17.2, g9, g10]) (ρ := [0, 5, 6, 7, 8, 9, 1, 10]) (φ := [0]) (ψ := [4, 5, 6, 7, 8, 0, 9]) [some 0] [some 5, none, none, none, some 0, some 1, some 2, some 3, some 4, some 6, none] zyw_M_byLaw zyw_M_sold zye_M_sold (by decide +kernel) (zt_M_byLaw hr17) ⟨⟨_, rfl, fun _ => rfl⟩, trivial⟩ ⟨rfl, rfl, rfl, rfl, rfl, rfl, rfl, trivial⟩ rfl rfl rfl rfl rfl rfl rfl) zd287_80 zxt288 rfl (by decide) (by decide) rfl ?_
            refine zv_goto hB zd287_83 rfl ?_
            refine zv_iast hB zd287_87 rfl rfl (zi_ix_ok c14).1 (zi_ix_ok c14).2 ?_
            refine zv_iincw hB zd287_88 rfl rfl ?_
            refine zv_goto hB zd287_91 rfl ?_
            exact ih _ _ _ _ _ _ _ _ q h hK
  have l1 : ∀ (n : Nat) (x1 : Int) (x2 : Int) (x3 : Int) (g0 : (Int → Int)) (g2 : (Int → Int)) (g3 : (Int → Int)) (g8 : (Int → Int)) (g10 : (Int → Int)) (q : (Int → Int)), zf_M_sold_l1 x1 n x3 g10 = some q → (good 114 [.inr 0, .inl x1, .inl x2, .inr 1000, .inr 1000, .inr 1000] [] [.inl f0] [g0, g1, g2, g3, g4, g5, g6, g7, g8, g9, q]) → good 96 [.inr 0, .inl x1, .inl x2, .inl x3, .inr 1000, .inr 1000] [] [.inl f0] [g0, g1, g2, g3, g4, g5, g6, g7, g8, g9, g10] := by
    intro n
    induction n with
    | zero => intro x1 x2 x3 g0 g2 g3 g8 g10 q h; exact absurd (show none = some q from h) (fun h => by cases h)
    | succ n ih =>
      intro x1 x2 x3 g0 g2 g3 g8 g10 q h hK
      replace h : zf_M_sold_l1_b x1 (zf_M_sold_l1 x1 n) x3 g10 = some q := h
      unfold zf_M_sold_l1_b at h
      refine zv_ild hB zd287_96 rfl rfl ?_
      refine zv_ild hB zd287_97 rfl rfl ?_
      refine zv_cgt hB zd287_98 rfl (fun hc19 => ?_) (fun hc19 => ?_)
      · rw [if_pos hc19] at h
        have hq := Option.some.inj h
        subst hq
        refine zv_wk hB (L' := [.inr 0, .inl x1, .inl x2, .inr 1000, .inr 1000, .inr 1000]) (F' := [.inl f0]) ⟨fun _ => rfl, fun _ => rfl, fun _ => rfl, fun (h : zv_is (.inr 1000)) => (Nat.lt_irrefl 1000 h).elim, fun (h : zv_is (.inr 1000)) => (Nat.lt_irrefl 1000 h).elim, fun (h : zv_is (.inr 1000)) => (Nat.lt_irrefl 1000 h).elim, trivial⟩ ⟨fun _ => rfl, trivial⟩ ?_
        exact hK
      · rw [if_neg (Int.not_lt.mpr hc19)] at h
        refine zv_ald hB zd287_101 rfl rfl rfl ?_
        refine zv_getr hB zd287_102 rfl ?_
        refine zv_ild hB zd287_105 rfl rfl ?_
        refine zv_con hB zd287_106 rfl ?_
        obtain ⟨c20, h⟩ := zi_if h
        refine zv_iast hB zd287_107 rfl rfl (zi_ix_ok c20).1 (zi_ix_ok c20).2 ?_
        refine zv_iincw hB zd287_108 rfl rfl ?_
        refine zv_goto hB zd287_111 rfl ?_
        exact ih _ _ _ _ _ _ _ _ q h hK
  have l3 : ∀ (n : Nat) (x1 : Int) (x2 : Int) (x3 : Int) (x4 : Int) (g0 : (Int → Int)) (g2 : (Int → Int)) (g3 : (Int → Int)) (g8 : (Int → Int)) (g10 : (Int → Int)) (q : (Int → Int)), zf_M_sold_l3 x1 x3 g1 g2 g3 n x4 g10 = some q → (good 223 [.inr 0, .inl x1, .inl x2, .inl x3, .inr 1000, .inr 1000] [] [.inl f0] [g0, g1, g2, g3, g4, g5, g6, g7, g8, g9, q]) → good 125 [.inr 0, .inl x1, .inl x2, .inl x3, .inl x4, .inr 1000] [] [.inl f0] [g0, g1, g2, g3, g4, g5, g6, g7, g8, g9, g10] := by
    intro n
    induction n with
    | zero => intro x1 x2 x3 x4 g0 g2 g3 g8 g10 q h; exact absurd (show none = some q from h) (fun h => by cases h)
    | succ n ih =>
      intro x1 x2 x3 x4 g0 g2 g3 g8 g10 q h hK
      replace h : zf_M_sold_l3_b x1 x3 g1 g2 g3 (zf_M_sold_l3 x1 x3 g1 g2 g3 n) x4 g10 = some q := h
      unfold zf_M_sold_l3_b at h
      refine zv_ild hB zd287_125 rfl rfl ?_
      refine zv_ild hB zd287_127 rfl rfl ?_
      refine zv_cgt hB zd287_128 rfl (fun hc23 => ?_) (fun hc23 => ?_)
      · rw [if_pos hc23] at h
        have hq := Option.some.inj h
        subst hq
        refine zv_wk hB (L' := [.inr 0, .inl x1, .inl x2, .inl x3, .inr 1000, .inr 1000]) (F' := [.inl f0]) ⟨fun _ => rfl, fun _ => rfl, fun _ => rfl, fun _ => rfl, fun (h : zv_is (.inr 1000)) => (Nat.lt_irrefl 1000 h).elim, fun (h : zv_is (.inr 1000)) => (Nat.lt_irrefl 1000 h).elim, trivial⟩ ⟨fun _ => rfl, trivial⟩ ?_
        exact hK
      · rw [if_neg (Int.not_lt.mpr hc23)] at h
        refine zv_ald hB zd287_131 rfl rfl rfl ?_
        refine zv_getr hB zd287_132 rfl ?_
        refine zv_con hB zd287_135 rfl ?_
        refine zv_ild hB zd287_138 rfl rfl ?_
        refine zv_mulw hB zd287_139 ?_
        refine zv_ild hB zd287_140 rfl rfl ?_
        refine zv_addw hB zd287_142 ?_
        obtain ⟨c24, h⟩ := zi_if h
        refine zv_iald hB zd287_143 rfl rfl (zi_ix_ok c24).1 (zi_ix_ok c24).2 (fun _ _ => ?_)
        refine zv_ist hB zd287_144 rfl rfl rfl ?_
        refine zv_ald hB zd287_146 rfl rfl rfl ?_
        refine zv_getr hB zd287_147 rfl ?_
        refine zv_con hB zd287_150 rfl ?_
        refine zv_ild hB zd287_153 rfl rfl ?_
        refine zv_con hB zd287_154 rfl ?_
        refine zv_addw hB zd287_155 ?_
        refine zv_mulw hB zd287_156 ?_
        refine zv_ild hB zd287_157 rfl rfl ?_
        refine zv_addw hB zd287_159 ?_
        refine zv_ald hB zd287_160 rfl rfl rfl ?_
        refine zv_ild hB zd287_161 rfl rfl ?_
        obtain ⟨r25, hr25, h⟩ := zi_bind h
        refine zv_cv hB (zv_emq (va2 := [.inr 0, .inl x3]) (F := [.inl f0]) (F' := [.inl f0]) (G := [g0, g1, g2, g3, g4, g5, g6, g7, g8, g9, g10]) (G' := [g0, g1, g2, g3, g4, g5, g6, g7, g8, g9, g10]) (ρ := [0, 2]) (φ := []) (ψ := [1]) [none] [none, some 0, none, none, none, none, none, none, none, none, none] zyw_M_isTold zyw_M_sold zye_M_sold (by decide +kernel) (zt_M_isTold hr25) trivial ⟨rfl, trivial⟩ rfl rfl rfl rfl rfl rfl rfl) zd287_162 zxt203 rfl (by decide) (by decide) rfl ?_
        refine zv_zeq hB zd287_165 rfl (fun hc26 => ?_) (fun hc26 => ?_)
        · rw [if_pos hc26] at h
          refine zv_ild hB zd287_214 rfl rfl ?_
          obtain ⟨c27, h⟩ := zi_if h
          refine zv_iast hB zd287_216 rfl rfl (zi_ix_ok c27).1 (zi_ix_ok c27).2 ?_
          refine zv_iincw hB zd287_217 rfl rfl ?_
          refine zv_goto hB zd287_220 rfl ?_
          refine zv_wk hB (L' := [.inr 0, .inl x1, .inl x2, .inl x3, .inl (zi_w (x4 + 1)), .inr 1000]) (F' := [.inl f0]) ⟨fun _ => rfl, fun _ => rfl, fun _ => rfl, fun _ => rfl, fun _ => rfl, fun (h : zv_is (.inr 1000)) => (Nat.lt_irrefl 1000 h).elim, trivial⟩ ⟨fun _ => rfl, trivial⟩ ?_
          exact ih _ _ _ _ _ _ _ _ _ q h hK
        · rw [if_neg hc26] at h
          refine zv_ald hB zd287_168 rfl rfl rfl ?_
          refine zv_getr hB zd287_169 rfl ?_
          refine zv_ild hB zd287_172 rfl rfl ?_
          obtain ⟨c28, h⟩ := zi_if h
          refine zv_iald hB zd287_173 rfl rfl (zi_ix_ok c28).1 (zi_ix_ok c28).2 (fun _ _ => ?_)
          refine zv_ild hB zd287_174 rfl rfl ?_
          refine zv_cgt hB zd287_176 rfl (fun hc29 => ?_) (fun hc29 => ?_)
          · rw [if_pos hc29] at h
            refine zv_ild hB zd287_214 rfl rfl ?_
            obtain ⟨c30, h⟩ := zi_if h
            refine zv_iast hB zd287_216 rfl rfl (zi_ix_ok c30).1 (zi_ix_ok c30).2 ?_
            refine zv_iincw hB zd287_217 rfl rfl ?_
            refine zv_goto hB zd287_220 rfl ?_
            refine zv_wk hB (L' := [.inr 0, .inl x1, .inl x2, .inl x3, .inl (zi_w (x4 + 1)), .inr 1000]) (F' := [.inl f0]) ⟨fun _ => rfl, fun _ => rfl, fun _ => rfl, fun _ => rfl, fun _ => rfl, fun (h : zv_is (.inr 1000)) => (Nat.lt_irrefl 1000 h).elim, trivial⟩ ⟨fun _ => rfl, trivial⟩ ?_
            exact ih _ _ _ _ _ _ _ _ _ q h hK
          · rw [if_neg (Int.not_lt.mpr hc29)] at h
            refine zv_ild hB zd287_179 rfl rfl ?_
            refine zv_ald hB zd287_181 rfl rfl rfl ?_
            refine zv_getr hB zd287_182 rfl ?_
            refine zv_ild hB zd287_185 rfl rfl ?_
            refine zv_iald hB zd287_186 rfl rfl (zi_ix_ok c28).1 (zi_ix_ok c28).2 (fun _ _ => ?_)
            refine zv_ald hB zd287_187 rfl rfl rfl ?_
            refine zv_getr hB zd287_188 rfl ?_
            refine zv_con hB zd287_191 rfl ?_
            refine zv_ild hB zd287_194 rfl rfl ?_
            refine zv_mulw hB zd287_195 ?_
            refine zv_ild hB zd287_196 rfl rfl ?_
            refine zv_addw hB zd287_198 ?_
            refine zv_ald hB zd287_199 rfl rfl rfl ?_
            refine zv_getr hB zd287_200 rfl ?_
            refine zv_ild hB zd287_203 rfl rfl ?_
            refine zv_iald hB zd287_204 rfl rfl (zi_ix_ok c28).1 (zi_ix_ok c28).2 (fun _ _ => ?_)
            refine zv_subw hB zd287_205 ?_
            obtain ⟨c31, h⟩ := zi_if h
            refine zv_iald hB zd287_206 rfl rfl (zi_ix_ok c31).1 (zi_ix_ok c31).2 (fun _ _ => ?_)
            refine zv_addw hB zd287_207 ?_
            obtain ⟨r32, hr32, h⟩ := zi_bind h
            refine zv_cs hB (zv_emq (va2 := [.inl (g10 (zi_w ((zi_w (1000 * x3)) + x4))), .inl (zi_w ((g2 x3) + (g10 (zi_w ((zi_w ((zi_w (1000 * x3)) + x4)) - (g3 x3))))))]) (F := [.inl f0]) (F' := [.inl f0]) (G := [g0, g1, g2, g3, g4, g5, g6, g7, g8, g9, g10]) (G' := [g0, g1, g2, g3, g4, g5, g6, g7, g8, g9, g10]) (ρ := []) (φ := []) (ψ := []) [none] [none, none, none, none, none, none, none, none, none, none, none] zyw_M_max zyw_M_sold zye_M_sold (by decide +kernel) (zt_M_max hr32) trivial trivial rfl rfl rfl rfl rfl rfl rfl) zd287_208 zxt258 rfl (by decide) (by decide) rfl ?_
            refine zv_goto hB zd287_211 rfl ?_
            obtain ⟨c33, h⟩ := zi_if h
            refine zv_iast hB zd287_216 rfl rfl (zi_ix_ok c33).1 (zi_ix_ok c33).2 ?_
            refine zv_iincw hB zd287_217 rfl rfl ?_
            refine zv_goto hB zd287_220 rfl ?_
            refine zv_wk hB (L' := [.inr 0, .inl x1, .inl x2, .inl x3, .inl (zi_w (x4 + 1)), .inr 1000]) (F' := [.inl f0]) ⟨fun _ => rfl, fun _ => rfl, fun _ => rfl, fun _ => rfl, fun _ => rfl, fun (h : zv_is (.inr 1000)) => (Nat.lt_irrefl 1000 h).elim, trivial⟩ ⟨fun _ => rfl, trivial⟩ ?_
            exact ih _ _ _ _ _ _ _ _ _ q h hK
  have l2 : ∀ (n : Nat) (x1 : Int) (x2 : Int) (x3 : Int) (g0 : (Int → Int)) (g2 : (Int → Int)) (g3 : (Int → Int)) (g8 : (Int → Int)) (g10 : (Int → Int)) (q : (Int → Int)), zf_M_sold_l2 x1 g1 g2 g3 n x3 g10 = some q → (good 229 [.inr 0, .inl x1, .inl x2, .inr 1000, .inr 1000, .inr 1000] [] [.inl f0] [g0, g1, g2, g3, g4, g5, g6, g7, g8, g9, q]) → good 116 [.inr 0, .inl x1, .inl x2, .inl x3, .inr 1000, .inr 1000] [] [.inl f0] [g0, g1, g2, g3, g4, g5, g6, g7, g8, g9, g10] := by
    intro n
    induction n with
    | zero => intro x1 x2 x3 g0 g2 g3 g8 g10 q h; exact absurd (show none = some q from h) (fun h => by cases h)
    | succ n ih =>
      intro x1 x2 x3 g0 g2 g3 g8 g10 q h hK
      replace h : zf_M_sold_l2_b x1 g1 g2 g3 (zf_M_sold_l2 x1 g1 g2 g3 n) x3 g10 = some q := h
      unfold zf_M_sold_l2_b at h
      refine zv_ild hB zd287_116 rfl rfl ?_
      refine zv_con hB zd287_117 rfl ?_
      refine zv_cge hB zd287_119 rfl (fun hc22 => ?_) (fun hc22 => ?_)
      · rw [if_neg (Int.not_lt.mpr hc22)] at h
        have hq := Option.some.inj h
        subst hq
        refine zv_wk hB (L' := [.inr 0, .inl x1, .inl x2, .inr 1000, .inr 1000, .inr 1000]) (F' := [.inl f0]) ⟨fun _ => rfl, fun _ => rfl, fun _ => rfl, fun (h : zv_is (.inr 1000)) => (Nat.lt_irrefl 1000 h).elim, fun (h : zv_is (.inr 1000)) => (Nat.lt_irrefl 1000 h).elim, fun (h : zv_is (.inr 1000)) => (Nat.lt_irrefl 1000 h).elim, trivial⟩ ⟨fun _ => rfl, trivial⟩ ?_
        exact hK
      · rw [if_pos hc22] at h
        refine zv_con hB zd287_122 rfl ?_
        refine zv_ist hB zd287_123 rfl rfl rfl ?_
        obtain ⟨q34, hq34, h⟩ := zi_bind h
        refine l3 _ _ _ _ _ _ _ _ _ _ q34 hq34 ?_
        show good 223 [.inr 0, .inl x1, .inl x2, .inl x3, .inr 1000, .inr 1000] [] [.inl f0] [g0, g1, g2, g3, g4, g5, g6, g7, g8, g9, q34]
        refine zv_iincw hB zd287_223 rfl rfl ?_
        refine zv_goto hB zd287_226 rfl ?_
        exact ih _ _ _ _ _ _ _ _ q h hK
  have l4 : ∀ (n : Nat) (x1 : Int) (x2 : Int) (x3 : Int) (x4 : Int) (x5 : Int) (g0 : (Int → Int)) (g2 : (Int → Int)) (g3 : (Int → Int)) (g8 : (Int → Int)) (g10 : (Int → Int)) (q : Int × Int), zf_M_sold_l4 g3 g10 n x3 x4 x5 = some q → (good 302 [.inr 0, .inl x1, .inl x2, .inl q.1, .inl q.2, .inr 1000] [] [.inl f0] [g0, g1, g2, g3, g4, g5, g6, g7, g8, g9, g10]) → good 238 [.inr 0, .inl x1, .inl x2, .inl x3, .inl x4, .inl x5] [] [.inl f0] [g0, g1, g2, g3, g4, g5, g6, g7, g8, g9, g10] := by
    intro n
    induction n with
    | zero => intro x1 x2 x3 x4 x5 g0 g2 g3 g8 g10 q h; exact absurd (show none = some q from h) (fun h => by cases h)
    | succ n ih =>
      intro x1 x2 x3 x4 x5 g0 g2 g3 g8 g10 q h hK
      replace h : zf_M_sold_l4_b g3 g10 (zf_M_sold_l4 g3 g10 n) x3 x4 x5 = some q := h
      unfold zf_M_sold_l4_b at h
      refine zv_ild hB zd287_238 rfl rfl ?_
      refine zv_zlt hB zd287_240 rfl (fun hc36 => ?_) (fun hc36 => ?_)
      · rw [if_pos hc36] at h
        have hq := Option.some.inj h
        subst hq
        refine zv_wk hB (L' := [.inr 0, .inl x1, .inl x2, .inl x3, .inl x4, .inr 1000]) (F' := [.inl f0]) ⟨fun _ => rfl, fun _ => rfl, fun _ => rfl, fun _ => rfl, fun _ => rfl, fun (h : zv_is (.inr 1000)) => (Nat.lt_irrefl 1000 h).elim, trivial⟩ ⟨fun _ => rfl, trivial⟩ ?_
        exact hK
      · rw [if_neg (Int.not_lt.mpr hc36)] at h
        refine zv_ald hB zd287_243 rfl rfl rfl ?_
        refine zv_getr hB zd287_244 rfl ?_
        refine zv_con hB zd287_247 rfl ?_
        refine zv_ild hB zd287_250 rfl rfl ?_
        refine zv_mulw hB zd287_252 ?_
        refine zv_ild hB zd287_253 rfl rfl ?_
        refine zv_addw hB zd287_254 ?_
        obtain ⟨c37, h⟩ := zi_if h
        refine zv_iald hB zd287_255 rfl rfl (zi_ix_ok c37).1 (zi_ix_ok c37).2 (fun _ _ => ?_)
        refine zv_ald hB zd287_256 rfl rfl rfl ?_
        refine zv_getr hB zd287_257 rfl ?_
        refine zv_con hB zd287_260 rfl ?_
        refine zv_ild hB zd287_263 rfl rfl ?_
        refine zv_con hB zd287_265 rfl ?_
        refine zv_addw hB zd287_266 ?_
        refine zv_mulw hB zd287_267 ?_
        refine zv_ild hB zd287_268 rfl rfl ?_
        refine zv_addw hB zd287_269 ?_
        obtain ⟨c38, h⟩ := zi_if h
        refine zv_iald hB zd287_270 rfl rfl (zi_ix_ok c38).1 (zi_ix_ok c38).2 (fun _ _ => ?_)
        refine zv_cne hB zd287_271 rfl (fun hc39 => ?_) (fun hc39 => ?_)
        · rw [if_neg hc39] at h
          refine zv_ild hB zd287_277 rfl rfl ?_
          refine zv_con hB zd287_279 rfl ?_
          refine zv_ild hB zd287_280 rfl rfl ?_
          refine zv_shlw hB zd287_282 ?_
          refine zv_orw hB zd287_283 ?_
          refine zv_ist hB zd287_284 rfl rfl rfl ?_
          refine zv_ild hB zd287_286 rfl rfl ?_
          refine zv_ald hB zd287_287 rfl rfl rfl ?_
          refine zv_getr hB zd287_288 rfl ?_
          refine zv_ild hB zd287_291 rfl rfl ?_
          obtain ⟨c40, h⟩ := zi_if h
          refine zv_iald hB zd287_293 rfl rfl (zi_ix_ok c40).1 (zi_ix_ok c40).2 (fun _ _ => ?_)
          refine zv_subw hB zd287_294 ?_
          refine zv_ist hB zd287_295 rfl rfl rfl ?_
          refine zv_iincw hB zd287_296 rfl rfl ?_
          refine zv_goto hB zd287_299 rfl ?_
          exact ih _ _ _ _ _ _ _ _ _ _ q h hK
        · rw [if_pos hc39] at h
          refine zv_goto hB zd287_274 rfl ?_
          refine zv_iincw hB zd287_296 rfl rfl ?_
          refine zv_goto hB zd287_299 rfl ?_
          exact ih _ _ _ _ _ _ _ _ _ _ q h hK
  unfold zf_M_sold at h
  refine zv_ild hB zd287_0 rfl rfl ?_
  refine zv_con hB zd287_1 rfl ?_
  refine zv_con hB zd287_2 rfl ?_
  obtain ⟨r1, hr1, h⟩ := zi_bind h
  refine zv_cs hB (zv_emq (va2 := [.inl x1, .inl 0, .inl 999]) (F := [.inl f0]) (F' := [.inl f0]) (G := [g0, g1, g2, g3, g4, g5, g6, g7, g8, g9, g10]) (G' := [g0, g1, g2, g3, g4, g5, g6, g7, g8, g9, g10]) (ρ := []) (φ := []) (ψ := []) [none] [none, none, none, none, none, none, none, none, none, none, none] zyw_M_in zyw_M_sold zye_M_sold (by decide +kernel) (zt_M_in hr1) trivial trivial rfl rfl rfl rfl rfl rfl rfl) zd287_5 zxt200 rfl (by decide) (by decide) rfl ?_
  refine zv_zeq hB zd287_8 rfl (fun hc2 => ?_) (fun hc2 => ?_)
  · rw [if_pos hc2] at h
    refine zv_con hB zd287_20 rfl ?_
    have hw := Option.some.inj h
    subst hw
    exact hret _ _ _ _ _ zd287_21 (by trivial) ⟨rfl, rfl, rfl⟩
  · rw [if_neg hc2] at h
    refine zv_ild hB zd287_11 rfl rfl ?_
    refine zv_con hB zd287_12 rfl ?_
    refine zv_con hB zd287_13 rfl ?_
    obtain ⟨r3, hr3, h⟩ := zi_bind h
    refine zv_cs hB (zv_emq (va2 := [.inl x2, .inl 0, .inl 2]) (F := [.inl f0]) (F' := [.inl f0]) (G := [g0, g1, g2, g3, g4, g5, g6, g7, g8, g9, g10]) (G' := [g0, g1, g2, g3, g4, g5, g6, g7, g8, g9, g10]) (ρ := []) (φ := []) (ψ := []) [none] [none, none, none, none, none, none, none, none, none, none, none] zyw_M_in zyw_M_sold zye_M_sold (by decide +kernel) (zt_M_in hr3) trivial trivial rfl rfl rfl rfl rfl rfl rfl) zd287_14 zxt200 rfl (by decide) (by decide) rfl ?_
    refine zv_zne hB zd287_17 rfl (fun hc4 => ?_) (fun hc4 => ?_)
    · rw [if_neg hc4] at h
      refine zv_con hB zd287_22 rfl ?_
      refine zv_ist hB zd287_23 rfl rfl rfl ?_
      obtain ⟨q18, hq18, h⟩ := zi_bind h
      refine l0 _ _ _ _ _ _ _ _ _ q18 hq18 ?_
      show good 94 [.inr 0, .inl x1, .inl x2, .inr 1000, .inr 1000, .inr 1000] [] [.inl f0] [q18.1, g1, q18.2.1, q18.2.2.1, g4, g5, g6, g7, q18.2.2.2, g9, g10]
      refine zv_con hB zd287_94 rfl ?_
      refine zv_ist hB zd287_95 rfl rfl rfl ?_
      obtain ⟨q21, hq21, h⟩ := zi_bind h
      refine l1 _ _ _ _ _ _ _ _ _ q21 hq21 ?_
      show good 114 [.inr 0, .inl x1, .inl x2, .inr 1000, .inr 1000, .inr 1000] [] [.inl f0] [q18.1, g1, q18.2.1, q18.2.2.1, g4, g5, g6, g7, q18.2.2.2, g9, q21]
      refine zv_con hB zd287_114 rfl ?_
      refine zv_ist hB zd287_115 rfl rfl rfl ?_
      obtain ⟨q35, hq35, h⟩ := zi_bind h
      refine l2 _ _ _ _ _ _ _ _ _ q35 hq35 ?_
      show good 229 [.inr 0, .inl x1, .inl x2, .inr 1000, .inr 1000, .inr 1000] [] [.inl f0] [q18.1, g1, q18.2.1, q18.2.2.1, g4, g5, g6, g7, q18.2.2.2, g9, q35]
      refine zv_ild hB zd287_229 rfl rfl ?_
      refine zv_ist hB zd287_230 rfl rfl rfl ?_
      refine zv_con hB zd287_231 rfl ?_
      refine zv_ist hB zd287_232 rfl rfl rfl ?_
      refine zv_con hB zd287_234 rfl ?_
      refine zv_ist hB zd287_236 rfl rfl rfl ?_
      obtain ⟨q41, hq41, h⟩ := zi_bind h
      refine l4 _ _ _ _ _ _ _ _ _ _ _ q41 hq41 ?_
      show good 302 [.inr 0, .inl x1, .inl x2, .inl q41.1, .inl q41.2, .inr 1000] [] [.inl f0] [q18.1, g1, q18.2.1, q18.2.2.1, g4, g5, g6, g7, q18.2.2.2, g9, q35]
      refine zv_ild hB zd287_302 rfl rfl ?_
      refine zv_zne hB zd287_303 rfl (fun hc42 => ?_) (fun hc42 => ?_)
      · rw [if_neg hc42] at h
        refine zv_ild hB zd287_319 rfl rfl ?_
        refine zv_con hB zd287_320 rfl ?_
        refine zv_cne hB zd287_321 rfl (fun hc43 => ?_) (fun hc43 => ?_)
        · rw [if_neg hc43] at h
          refine zv_ild hB zd287_329 rfl rfl ?_
          refine zv_ild hB zd287_330 rfl rfl ?_
          refine zv_subw hB zd287_331 ?_
          have hw := Option.some.inj h
          subst hw
          exact hret _ _ _ _ _ zd287_332 (by trivial) ⟨rfl, rfl, rfl⟩
        · rw [if_pos hc43] at h
          refine zv_ild hB zd287_324 rfl rfl ?_
          refine zv_goto hB zd287_326 rfl ?_
          have hw := Option.some.inj h
          subst hw
          exact hret _ _ _ _ _ zd287_332 (by trivial) ⟨rfl, rfl, rfl⟩
      · rw [if_pos hc42] at h
        refine zv_ald hB zd287_306 rfl rfl rfl ?_
        refine zv_getr hB zd287_307 rfl ?_
        refine zv_con hB zd287_310 rfl ?_
        refine zv_ild hB zd287_313 rfl rfl ?_
        refine zv_addw hB zd287_314 ?_
        obtain ⟨c44, h⟩ := zi_if h
        refine zv_iald hB zd287_315 rfl rfl (zi_ix_ok c44).1 (zi_ix_ok c44).2 (fun _ _ => ?_)
        refine zv_goto hB zd287_316 rfl ?_
        have hw := Option.some.inj h
        subst hw
        exact hret _ _ _ _ _ zd287_332 (by trivial) ⟨rfl, rfl, rfl⟩
    · rw [if_pos hc4] at h
      refine zv_con hB zd287_20 rfl ?_
      have hw := Option.some.inj h
      subst hw
      exact hret _ _ _ _ _ zd287_21 (by trivial) ⟨rfl, rfl, rfl⟩
/-! M_sign (I)I -/
-- names: 
-- fields: ; arrays: ; out: [('ret', None)]
abbrev zy_M_sign : zNL := (0, [], [], [], [])
theorem zyw_M_sign : zv_wf zy_M_sign = true := by decide +kernel
theorem zye_M_sign : zv_ek2 zy_M_sign = true := by decide +kernel
def zf_M_sign (x0 : Int) : Option (Int) := if 0 < x0 then (some 1) else (if x0 < 0 then (some (-1)) else (some 0))
theorem zd293_0 : decode zxm293.2.1 0 = .ok (.iload_n 0, 1) := by decide +kernel
theorem zd293_1 : decode zxm293.2.1 1 = .ok (.ifCond .le 7, 3) := by decide +kernel
theorem zd293_4 : decode zxm293.2.1 4 = .ok (.iconst 1, 1) := by decide +kernel
theorem zd293_5 : decode zxm293.2.1 5 = .ok (.goto 12, 3) := by decide +kernel
theorem zd293_8 : decode zxm293.2.1 8 = .ok (.iload_n 0, 1) := by decide +kernel
theorem zd293_9 : decode zxm293.2.1 9 = .ok (.ifCond .ge 7, 3) := by decide +kernel
theorem zd293_12 : decode zxm293.2.1 12 = .ok (.iconst (-1), 1) := by decide +kernel
theorem zd293_13 : decode zxm293.2.1 13 = .ok (.goto 4, 3) := by decide +kernel
theorem zd293_16 : decode zxm293.2.1 16 = .ok (.iconst 0, 1) := by decide +kernel
theorem zd293_17 : decode zxm293.2.1 17 = .ok (.ireturn, 1) := by decide +kernel
theorem zt_M_sign {x0 : Int} {o : Int} (h : zf_M_sign x0 = some o) : zv_Fn z_TB z_cl z_KX zy_M_sign zxm293 (0, 0) [.inl x0] [] [] (some o) [] [] := zv_meth (K := (z_KF13, z_KC13, z_KL13, z_KT13, [], [], [], none)) (FT := z_FT) (MT := z_MT) (n := 1) zxp293 (z_ks13 _ (fun _ h => List.mem_cons_of_mem _ h) _ _ _ _ (fun j r h _ => by cases h)) (fun _ _ => zs_KX_p) zyw_M_sign (fun va F G h => by obtain ⟨rfl, _⟩ := h; rfl) (fun va F G h => by obtain ⟨rfl, _⟩ := h; rfl) rfl fun good va F G hB hret hvret hP => by
  obtain ⟨rfl, rfl, rfl⟩ := hP
  unfold zf_M_sign at h
  refine zv_ild hB zd293_0 rfl rfl ?_
  refine zv_zle hB zd293_1 rfl (fun hc1 => ?_) (fun hc1 => ?_)
  · rw [if_neg (Int.not_lt.mpr hc1)] at h
    refine zv_ild hB zd293_8 rfl rfl ?_
    refine zv_zge hB zd293_9 rfl (fun hc2 => ?_) (fun hc2 => ?_)
    · rw [if_neg (Int.not_lt.mpr hc2)] at h
      refine zv_con hB zd293_16 rfl ?_
      have hw := Option.some.inj h
      subst hw
      exact hret _ _ _ _ _ zd293_17 (by trivial) ⟨rfl, rfl, rfl⟩
    · rw [if_pos hc2] at h
      refine zv_con hB zd293_12 rfl ?_
      refine zv_goto hB zd293_13 rfl ?_
      have hw := Option.some.inj h
      subst hw
      exact hret _ _ _ _ _ zd293_17 (by trivial) ⟨rfl, rfl, rfl⟩
  · rw [if_pos hc1] at h
    refine zv_con hB zd293_4 rfl ?_
    refine zv_goto hB zd293_5 rfl ?_
    have hw := Option.some.inj h
    subst hw
    exact hret _ _ _ _ _ zd293_17 (by trivial) ⟨rfl, rfl, rfl⟩
end
