/-! 62j.dec, 62k.dec, 62l.dec, 62m.dec, 62n.dec -/
section
/-! Methods as functions, and that they do what these do. -/
/-! M_tellsApart (I)Z -/
-- names: 0 StarTalesModel('arg', 0), 1 (0, 28)(0, 12, 47)
-- fields: f0 = 0.unlikeMany_; arrays: g0 = 1; out: [('ret', None)]
abbrev zy_M_tellsApart : zNL := (2, [(0, 12)], [(0, 12, 48, 0)], [(0, 12, 47, 1)], [(1, 0, 28, 0)])
theorem zyw_M_tellsApart : zv_wf zy_M_tellsApart = true := by decide +kernel
theorem zye_M_tellsApart : zv_ek2 zy_M_tellsApart = true := by decide +kernel
def zf_M_tellsApart_l0_b (x1 : Int) (f0 : Int) (g0 : (Int → Int)) (rec : Int → Option (((Unit) ⊕ (Int)))) (x2 : Int) : Option (((Unit) ⊕ (Int))) := if x2 < f0 then (cond (zi_ix x2 28) (if (zi_and (g0 x2) x1) = 0 then (some (.inr 0)) else (rec (zi_w (x2 + 1)))) none) else (some (.inl ()))
def zf_M_tellsApart_l0 (x1 : Int) (f0 : Int) (g0 : (Int → Int)) : Nat → Int → Option (((Unit) ⊕ (Int)))
  | 0, _ => none
  | n + 1, x2 => zf_M_tellsApart_l0_b x1 f0 g0 (zf_M_tellsApart_l0 x1 f0 g0 n) x2
def zf_M_tellsApart (x1 : Int) (f0 : Int) (g0 : (Int → Int)) : Option (Int) := (zf_M_tellsApart_l0 x1 f0 g0 zi_fu 0).bind fun q4 => Sum.elim (fun e5 => (some 1)) (fun w6 => some w6) q4
theorem zd286_0 : decode zxm286.2.1 0 = .ok (.iconst 0, 1) := by decide +kernel
theorem zd286_1 : decode zxm286.2.1 1 = .ok (.istore_n 2, 1) := by decide +kernel
theorem zd286_2 : decode zxm286.2.1 2 = .ok (.iload_n 2, 1) := by decide +kernel
theorem zd286_3 : decode zxm286.2.1 3 = .ok (.aload_n 0, 1) := by decide +kernel
theorem zd286_4 : decode zxm286.2.1 4 = .ok (.getfield 395, 3) := by decide +kernel
theorem zd286_7 : decode zxm286.2.1 7 = .ok (.if_icmp .ge 22, 3) := by decide +kernel
theorem zd286_10 : decode zxm286.2.1 10 = .ok (.aload_n 0, 1) := by decide +kernel
theorem zd286_11 : decode zxm286.2.1 11 = .ok (.getfield 101, 3) := by decide +kernel
theorem zd286_14 : decode zxm286.2.1 14 = .ok (.iload_n 2, 1) := by decide +kernel
theorem zd286_15 : decode zxm286.2.1 15 = .ok (.iaload, 1) := by decide +kernel
theorem zd286_16 : decode zxm286.2.1 16 = .ok (.iload_n 1, 1) := by decide +kernel
theorem zd286_17 : decode zxm286.2.1 17 = .ok (.iand, 1) := by decide +kernel
theorem zd286_18 : decode zxm286.2.1 18 = .ok (.ifCond .ne 5, 3) := by decide +kernel
theorem zd286_21 : decode zxm286.2.1 21 = .ok (.iconst 0, 1) := by decide +kernel
theorem zd286_22 : decode zxm286.2.1 22 = .ok (.ireturn, 1) := by decide +kernel
theorem zd286_23 : decode zxm286.2.1 23 = .ok (.iinc 2 1, 3) := by decide +kernel
theorem zd286_26 : decode zxm286.2.1 26 = .ok (.goto (-24), 3) := by decide +kernel
theorem zd286_29 : decode zxm286.2.1 29 = .ok (.iconst 1, 1) := by decide +kernel
theorem zd286_30 : decode zxm286.2.1 30 = .ok (.ireturn, 1) := by decide +kernel
theorem zt_M_tellsApart {x1 : Int} {f0 : Int} {g0 : (Int → Int)} {o : Int} (h : zf_M_tellsApart x1 f0 g0 = some o) : zv_Fn z_TB z_cl z_KX zy_M_tellsApart zxm286 (0, 0) [.inr 0, .inl x1] [.inl f0] [g0] (some o) [.inl f0] [g0] := zv_meth (K := (z_KF13, z_KC13, z_KL13, z_KT13, [], [], [], none)) (FT := z_FT) (MT := z_MT) (n := 2) zxp286 (z_ks13 _ (fun _ h => List.mem_cons_of_mem _ h) _ _ _ _ (fun j r h _ => by cases h)) (fun _ _ => zs_KX_p) zyw_M_tellsApart (fun va F G h => by obtain ⟨rfl, _⟩ := h; rfl) (fun va F G h => by obtain ⟨rfl, _⟩ := h; rfl) rfl fun good va F G hB hret hvret hP => by
  obtain ⟨rfl, rfl, rfl⟩ := hP
  have l0 : ∀ (n : Nat) (x1 : Int) (x2 : Int) (q : ((Unit) ⊕ (Int))), zf_M_tellsApart_l0 x1 f0 g0 n x2 = some q → (Sum.elim (fun e : Unit => good 29 [.inr 1000, .inr 1000, .inr 1000] [] [.inl f0] [g0]) (fun w : Int => w = o) q) → good 2 [.inr 0, .inl x1, .inl x2] [] [.inl f0] [g0] := by
    intro n
    induction n with
    | zero => intro x1 x2 q h; exact absurd (show none = some q from h) (fun h => by cases h)
    | succ n ih =>
      intro x1 x2 q h hK
      replace h : zf_M_tellsApart_l0_b x1 f0 g0 (zf_M_tellsApart_l0 x1 f0 g0 n) x2 = some q := h
      unfold zf_M_tellsApart_l0_b at h
      refine zv_ild hB zd286_2 rfl rfl ?_
      refine zv_ald hB zd286_3 rfl rfl rfl ?_
      refine zv_getf hB zd286_4 rfl rfl (fun _ _ => ?_)
      refine zv_cge hB zd286_7 rfl (fun hc1 => ?_) (fun hc1 => ?_)
      · rw [if_neg (Int.not_lt.mpr hc1)] at h
        have hq := Option.some.inj h
        subst hq
        refine zv_wk hB (L' := [.inr 1000, .inr 1000, .inr 1000]) (F' := [.inl f0]) ⟨fun (h : zv_is (.inr 1000)) => (Nat.lt_irrefl 1000 h).elim, fun (h : zv_is (.inr 1000)) => (Nat.lt_irrefl 1000 h).elim, fun (h : zv_is (.inr 1000)) => (Nat.lt_irrefl 1000 h).elim, trivial⟩ ⟨fun _ => rfl, trivial⟩ ?_
        exact hK
      · rw [if_pos hc1] at h
        refine zv_ald hB zd286_10 rfl rfl rfl ?_
        refine zv_getr hB zd286_11 rfl ?_
        refine zv_ild hB zd286_14 rfl rfl ?_
        obtain ⟨c2, h⟩ := zi_if h
        refine zv_iald hB zd286_15 rfl rfl (zi_ix_ok c2).1 (zi_ix_ok c2).2 (fun _ _ => ?_)
        refine zv_ild hB zd286_16 rfl rfl ?_
        refine zv_andw hB zd286_17 ?_
        refine zv_zne hB zd286_18 rfl (fun hc3 => ?_) (fun hc3 => ?_)
        · rw [if_neg hc3] at h
          refine zv_iincw hB zd286_23 rfl rfl ?_
          refine zv_goto hB zd286_26 rfl ?_
          exact ih _ _ q h hK
        · rw [if_pos hc3] at h
          refine zv_con hB zd286_21 rfl ?_
          have hw : 0 = o := zi_rk (Option.some.inj h) hK
          subst hw
          exact hret _ _ _ _ _ zd286_22 (by constructor <;> decide) ⟨rfl, rfl, rfl⟩
  unfold zf_M_tellsApart at h
  refine zv_con hB zd286_0 rfl ?_
  refine zv_ist hB zd286_1 rfl rfl rfl ?_
  obtain ⟨q4, hq4, h⟩ := zi_bind h
  refine l0 _ _ _ q4 hq4 ?_
  rcases q4 with e5 | w6
  · replace h := zi_sl h
    show good 29 [.inr 1000, .inr 1000, .inr 1000] [] [.inl f0] [g0]
    refine zv_con hB zd286_29 rfl ?_
    have hw := Option.some.inj h
    subst hw
    exact hret _ _ _ _ _ zd286_30 (by constructor <;> decide) ⟨rfl, rfl, rfl⟩
  · exact Option.some.inj h
/-! M_leastOf (I)I -/
-- names: 0 StarTalesModel('arg', 0), 1 (0, 422)(0, 12, 0), 2 (0, 28)(0, 12, 47)
-- fields: f0 = 0.unlikeMany_; arrays: g0 = 1, g1 = 2; out: [('ret', None)]
abbrev zy_M_leastOf : zNL := (3, [(0, 12)], [(0, 12, 48, 0)], [(0, 12, 0, 1), (0, 12, 47, 2)], [(1, 0, 422, 0), (2, 0, 28, 1)])
theorem zyw_M_leastOf : zv_wf zy_M_leastOf = true := by decide +kernel
theorem zye_M_leastOf : zv_ek2 zy_M_leastOf = true := by decide +kernel
def zf_M_leastOf_l0_b (f0 : Int) (g0 : (Int → Int)) (g1 : (Int → Int)) (rec : Int → Option (((Unit) ⊕ (Int)))) (x2 : Int) : Option (((Unit) ⊕ (Int))) := if x2 < 16777216 then (if (zi_and x2 (zi_xor (g0 126) (-1))) = 0 then ((zf_M_tellsApart x2 f0 g1).bind fun r5 => (if r5 = 0 then (cond (zi_ne (zi_and x2 (zi_w (-x2)))) (zi_let (zi_or (zi_w (x2 + (zi_and x2 (zi_w (-x2))))) (zi_shr (zi_div (zi_xor x2 (zi_w (x2 + (zi_and x2 (zi_w (-x2)))))) (zi_and x2 (zi_w (-x2)))) 2)) fun v8 => (rec v8)) none) else (some (.inr x2)))) else (cond (zi_ne (zi_and x2 (zi_w (-x2)))) (zi_let (zi_or (zi_w (x2 + (zi_and x2 (zi_w (-x2))))) (zi_shr (zi_div (zi_xor x2 (zi_w (x2 + (zi_and x2 (zi_w (-x2)))))) (zi_and x2 (zi_w (-x2)))) 2)) fun v4 => (rec v4)) none)) else (some (.inl ()))
def zf_M_leastOf_l0 (f0 : Int) (g0 : (Int → Int)) (g1 : (Int → Int)) : Nat → Int → Option (((Unit) ⊕ (Int)))
  | 0, _ => none
  | n + 1, x2 => zf_M_leastOf_l0_b f0 g0 g1 (zf_M_leastOf_l0 f0 g0 g1 n) x2
def zf_M_leastOf (x1 : Int) (f0 : Int) (g0 : (Int → Int)) (g1 : (Int → Int)) : Option (Int) := (zf_M_leastOf_l0 f0 g0 g1 zi_fu (zi_w ((zi_shl 1 x1) - 1))).bind fun q9 => Sum.elim (fun e10 => (some (-1))) (fun w11 => some w11) q9
theorem zd285_0 : decode zxm285.2.1 0 = .ok (.iconst 1, 1) := by decide +kernel
theorem zd285_1 : decode zxm285.2.1 1 = .ok (.iload_n 1, 1) := by decide +kernel
theorem zd285_2 : decode zxm285.2.1 2 = .ok (.ishl, 1) := by decide +kernel
theorem zd285_3 : decode zxm285.2.1 3 = .ok (.iconst 1, 1) := by decide +kernel
theorem zd285_4 : decode zxm285.2.1 4 = .ok (.isub, 1) := by decide +kernel
theorem zd285_5 : decode zxm285.2.1 5 = .ok (.istore_n 2, 1) := by decide +kernel
theorem zd285_6 : decode zxm285.2.1 6 = .ok (.iload_n 2, 1) := by decide +kernel
theorem zd285_7 : decode zxm285.2.1 7 = .ok (.ldc_w 398, 3) := by decide +kernel
theorem zd285_10 : decode zxm285.2.1 10 = .ok (.if_icmp .ge 52, 3) := by decide +kernel
theorem zd285_13 : decode zxm285.2.1 13 = .ok (.iload_n 2, 1) := by decide +kernel
theorem zd285_14 : decode zxm285.2.1 14 = .ok (.aload_n 0, 1) := by decide +kernel
theorem zd285_15 : decode zxm285.2.1 15 = .ok (.getfield 7, 3) := by decide +kernel
theorem zd285_18 : decode zxm285.2.1 18 = .ok (.bipush 126, 2) := by decide +kernel
theorem zd285_20 : decode zxm285.2.1 20 = .ok (.iaload, 1) := by decide +kernel
theorem zd285_21 : decode zxm285.2.1 21 = .ok (.iconst (-1), 1) := by decide +kernel
theorem zd285_22 : decode zxm285.2.1 22 = .ok (.ixor, 1) := by decide +kernel
theorem zd285_23 : decode zxm285.2.1 23 = .ok (.iand, 1) := by decide +kernel
theorem zd285_24 : decode zxm285.2.1 24 = .ok (.ifCond .ne 13, 3) := by decide +kernel
theorem zd285_27 : decode zxm285.2.1 27 = .ok (.aload_n 0, 1) := by decide +kernel
theorem zd285_28 : decode zxm285.2.1 28 = .ok (.iload_n 2, 1) := by decide +kernel
theorem zd285_29 : decode zxm285.2.1 29 = .ok (.invokevirtual 399, 3) := by decide +kernel
theorem zd285_32 : decode zxm285.2.1 32 = .ok (.ifCond .eq 5, 3) := by decide +kernel
theorem zd285_35 : decode zxm285.2.1 35 = .ok (.iload_n 2, 1) := by decide +kernel
theorem zd285_36 : decode zxm285.2.1 36 = .ok (.ireturn, 1) := by decide +kernel
theorem zd285_37 : decode zxm285.2.1 37 = .ok (.iload_n 2, 1) := by decide +kernel
theorem zd285_38 : decode zxm285.2.1 38 = .ok (.iload_n 2, 1) := by decide +kernel
theorem zd285_39 : decode zxm285.2.1 39 = .ok (.ineg, 1) := by decide +kernel
theorem zd285_40 : decode zxm285.2.1 40 = .ok (.iand, 1) := by decide +kernel
theorem zd285_41 : decode zxm285.2.1 41 = .ok (.istore_n 3, 1) := by decide +kernel
theorem zd285_42 : decode zxm285.2.1 42 = .ok (.iload_n 2, 1) := by decide +kernel
theorem zd285_43 : decode zxm285.2.1 43 = .ok (.iload_n 3, 1) := by decide +kernel
theorem zd285_44 : decode zxm285.2.1 44 = .ok (.iadd, 1) := by decide +kernel
theorem zd285_45 : decode zxm285.2.1 45 = .ok (.istore 4, 2) := by decide +kernel
theorem zd285_47 : decode zxm285.2.1 47 = .ok (.iload 4, 2) := by decide +kernel
theorem zd285_49 : decode zxm285.2.1 49 = .ok (.iload_n 2, 1) := by decide +kernel
theorem zd285_50 : decode zxm285.2.1 50 = .ok (.iload 4, 2) := by decide +kernel
theorem zd285_52 : decode zxm285.2.1 52 = .ok (.ixor, 1) := by decide +kernel
theorem zd285_53 : decode zxm285.2.1 53 = .ok (.iload_n 3, 1) := by decide +kernel
theorem zd285_54 : decode zxm285.2.1 54 = .ok (.idiv, 1) := by decide +kernel
theorem zd285_55 : decode zxm285.2.1 55 = .ok (.iconst 2, 1) := by decide +kernel
theorem zd285_56 : decode zxm285.2.1 56 = .ok (.ishr, 1) := by decide +kernel
theorem zd285_57 : decode zxm285.2.1 57 = .ok (.ior, 1) := by decide +kernel
theorem zd285_58 : decode zxm285.2.1 58 = .ok (.istore_n 2, 1) := by decide +kernel
theorem zd285_59 : decode zxm285.2.1 59 = .ok (.goto (-53), 3) := by decide +kernel
theorem zd285_62 : decode zxm285.2.1 62 = .ok (.iconst (-1), 1) := by decide +kernel
theorem zd285_63 : decode zxm285.2.1 63 = .ok (.ireturn, 1) := by decide +kernel
theorem zt_M_leastOf {x1 : Int} {f0 : Int} {g0 : (Int → Int)} {g1 : (Int → Int)} {o : Int} (h : zf_M_leastOf x1 f0 g0 g1 = some o) : zv_Fn z_TB z_cl z_KX zy_M_leastOf zxm285 (1, 60) [.inr 0, .inl x1] [.inl f0] [g0, g1] (some o) [.inl f0] [g0, g1] := zv_meth (K := (z_KF13, z_KC13, z_KL13, z_KT13, [], [], [], none)) (FT := z_FT) (MT := z_MT) (n := 2) zxp285 (z_ks13 _ (fun _ h => List.mem_cons_of_mem _ h) _ _ _ _ (fun j r h _ => by cases h)) (fun _ _ => zs_KX_p) zyw_M_leastOf (fun va F G h => by obtain ⟨rfl, _⟩ := h; rfl) (fun va F G h => by obtain ⟨rfl, _⟩ := h; rfl) rfl fun good va F G hB hret hvret hP => by
  obtain ⟨rfl, rfl, rfl⟩ := hP
  have l0 : ∀ (n : Nat) (x2 : Int) (q : ((Unit) ⊕ (Int))), zf_M_leastOf_l0 f0 g0 g1 n x2 = some q → (Sum.elim (fun e : Unit => good 62 [.inr 1000, .inr 1000, .inr 1000, .inr 1000, .inr 1000] [] [.inl f0] [g0, g1]) (fun w : Int => w = o) q) → good 6 [.inr 0, .inr 1000, .inl x2, .inr 1000, .inr 1000] [] [.inl f0] [g0, g1] := by
    intro n
    induction n with
    | zero => intro x2 q h; exact absurd (show none = some q from h) (fun h => by cases h)
    | succ n ih =>
      intro x2 q h hK
      replace h : zf_M_leastOf_l0_b f0 g0 g1 (zf_M_leastOf_l0 f0 g0 g1 n) x2 = some q := h
      unfold zf_M_leastOf_l0_b at h
      refine zv_ild hB zd285_6 rfl rfl ?_
      refine zv_con (n := 16777216) hB zd285_7 (by decide +kernel) ?_
      refine zv_cge hB zd285_10 rfl (fun hc1 => ?_) (fun hc1 => ?_)
      · rw [if_neg (Int.not_lt.mpr hc1)] at h
        have hq := Option.some.inj h
        subst hq
        refine zv_wk hB (L' := [.inr 1000, .inr 1000, .inr 1000, .inr 1000, .inr 1000]) (F' := [.inl f0]) ⟨fun (h : zv_is (.inr 1000)) => (Nat.lt_irrefl 1000 h).elim, fun (h : zv_is (.inr 1000)) => (Nat.lt_irrefl 1000 h).elim, fun (h : zv_is (.inr 1000)) => (Nat.lt_irrefl 1000 h).elim, fun (h : zv_is (.inr 1000)) => (Nat.lt_irrefl 1000 h).elim, fun (h : zv_is (.inr 1000)) => (Nat.lt_irrefl 1000 h).elim, trivial⟩ ⟨fun _ => rfl, trivial⟩ ?_
        exact hK
      · rw [if_pos hc1] at h
        refine zv_ild hB zd285_13 rfl rfl ?_
        refine zv_ald hB zd285_14 rfl rfl rfl ?_
        refine zv_getr hB zd285_15 rfl ?_
        refine zv_con hB zd285_18 rfl ?_
        refine zv_iald hB zd285_20 rfl rfl (by decide) (by decide) (fun _ _ => ?_)
        refine zv_con hB zd285_21 rfl ?_
        refine zv_xorw hB zd285_22 ?_
        refine zv_andw hB zd285_23 ?_
        refine zv_zne hB zd285_24 rfl (fun hc2 => ?_) (fun hc2 => ?_)
        · rw [if_neg hc2] at h
          refine zv_ild hB zd285_37 rfl rfl ?_
          refine zv_ild hB zd285_38 rfl rfl ?_
          refine zv_negw hB zd285_39 ?_
          refine zv_andw hB zd285_40 ?_
          refine zv_ist hB zd285_41 rfl rfl rfl ?_
          refine zv_ild hB zd285_42 rfl rfl ?_
          refine zv_ild hB zd285_43 rfl rfl ?_
          refine zv_addw hB zd285_44 ?_
          refine zv_ist hB zd285_45 rfl rfl rfl ?_
          refine zv_ild hB zd285_47 rfl rfl ?_
          refine zv_ild hB zd285_49 rfl rfl ?_
          refine zv_ild hB zd285_50 rfl rfl ?_
          refine zv_xorw hB zd285_52 ?_
          refine zv_ild hB zd285_53 rfl rfl ?_
          obtain ⟨c3, h⟩ := zi_if h
          refine zv_divw hB zd285_54 (zi_ne_ok c3) ?_
          refine zv_con hB zd285_55 rfl ?_
          refine zv_shrw hB zd285_56 ?_
          refine zv_orw hB zd285_57 ?_
          refine zv_ist hB zd285_58 rfl rfl rfl ?_
          obtain ⟨v4, hv4, h⟩ := zi_letp h
          rw [hv4]
          refine zv_goto hB zd285_59 rfl ?_
          refine zv_wk hB (L' := [.inr 0, .inr 1000, .inl v4, .inr 1000, .inr 1000]) (F' := [.inl f0]) ⟨fun _ => rfl, fun (h : zv_is (.inr 1000)) => (Nat.lt_irrefl 1000 h).elim, fun _ => rfl, fun (h : zv_is (.inr 1000)) => (Nat.lt_irrefl 1000 h).elim, fun (h : zv_is (.inr 1000)) => (Nat.lt_irrefl 1000 h).elim, trivial⟩ ⟨fun _ => rfl, trivial⟩ ?_
          exact ih _ q h hK
        · rw [if_pos hc2] at h
          refine zv_ald hB zd285_27 rfl rfl rfl ?_
          refine zv_ild hB zd285_28 rfl rfl ?_
          obtain ⟨r5, hr5, h⟩ := zi_bind h
          refine zv_cv hB (zv_emq (va2 := [.inr 0, .inl x2]) (F := [.inl f0]) (F' := [.inl f0]) (G := [g0, g1]) (G' := [g0, g1]) (ρ := [0, 2]) (φ := [0]) (ψ := [1]) [some 0] [none, some 0] zyw_M_tellsApart zyw_M_leastOf zye_M_leastOf (by decide +kernel) (zt_M_tellsApart hr5) ⟨⟨_, rfl, fun _ => rfl⟩, trivial⟩ ⟨rfl, trivial⟩ rfl rfl rfl rfl rfl rfl rfl) zd285_29 zxt286 rfl (by decide) (by decide) rfl ?_
          refine zv_zeq hB zd285_32 rfl (fun hc6 => ?_) (fun hc6 => ?_)
          · rw [if_pos hc6] at h
            refine zv_ild hB zd285_37 rfl rfl ?_
            refine zv_ild hB zd285_38 rfl rfl ?_
            refine zv_negw hB zd285_39 ?_
            refine zv_andw hB zd285_40 ?_
            refine zv_ist hB zd285_41 rfl rfl rfl ?_
            refine zv_ild hB zd285_42 rfl rfl ?_
            refine zv_ild hB zd285_43 rfl rfl ?_
            refine zv_addw hB zd285_44 ?_
            refine zv_ist hB zd285_45 rfl rfl rfl ?_
            refine zv_ild hB zd285_47 rfl rfl ?_
            refine zv_ild hB zd285_49 rfl rfl ?_
            refine zv_ild hB zd285_50 rfl rfl ?_
            refine zv_xorw hB zd285_52 ?_
            refine zv_ild hB zd285_53 rfl rfl ?_
            obtain ⟨c7, h⟩ := zi_if h
            refine zv_divw hB zd285_54 (zi_ne_ok c7) ?_
            refine zv_con hB zd285_55 rfl ?_
            refine zv_shrw hB zd285_56 ?_
            refine zv_orw hB zd285_57 ?_
            refine zv_ist hB zd285_58 rfl rfl rfl ?_
            obtain ⟨v8, hv8, h⟩ := zi_letp h
            rw [hv8]
            refine zv_goto hB zd285_59 rfl ?_
            refine zv_wk hB (L' := [.inr 0, .inr 1000, .inl v8, .inr 1000, .inr 1000]) (F' := [.inl f0]) ⟨fun _ => rfl, fun (h : zv_is (.inr 1000)) => (Nat.lt_irrefl 1000 h).elim, fun _ => rfl, fun (h : zv_is (.inr 1000)) => (Nat.lt_irrefl 1000 h).elim, fun (h : zv_is (.inr 1000)) => (Nat.lt_irrefl 1000 h).elim, trivial⟩ ⟨fun _ => rfl, trivial⟩ ?_
            exact ih _ q h hK
          · rw [if_neg hc6] at h
            refine zv_ild hB zd285_35 rfl rfl ?_
            have hw : x2 = o := zi_rk (Option.some.inj h) hK
            subst hw
            exact hret _ _ _ _ _ zd285_36 (by trivial) ⟨rfl, rfl, rfl⟩
  unfold zf_M_leastOf at h
  refine zv_con hB zd285_0 rfl ?_
  refine zv_ild hB zd285_1 rfl rfl ?_
  refine zv_shlw hB zd285_2 ?_
  refine zv_con hB zd285_3 rfl ?_
  refine zv_subw hB zd285_4 ?_
  refine zv_ist hB zd285_5 rfl rfl rfl ?_
  obtain ⟨q9, hq9, h⟩ := zi_bind h
  refine zv_wk hB (L' := [.inr 0, .inr 1000, .inl (zi_w ((zi_shl 1 x1) - 1)), .inr 1000, .inr 1000]) (F' := [.inl f0]) ⟨fun _ => rfl, fun (h : zv_is (.inr 1000)) => (Nat.lt_irrefl 1000 h).elim, fun _ => rfl, fun (h : zv_is (.inr 1000)) => (Nat.lt_irrefl 1000 h).elim, fun (h : zv_is (.inr 1000)) => (Nat.lt_irrefl 1000 h).elim, trivial⟩ ⟨fun _ => rfl, trivial⟩ ?_
  refine l0 _ _ q9 hq9 ?_
  rcases q9 with e10 | w11
  · replace h := zi_sl h
    show good 62 [.inr 1000, .inr 1000, .inr 1000, .inr 1000, .inr 1000] [] [.inl f0] [g0, g1]
    refine zv_con hB zd285_62 rfl ?_
    have hw := Option.some.inj h
    subst hw
    exact hret _ _ _ _ _ zd285_63 (by trivial) ⟨rfl, rfl, rfl⟩
  · exact Option.some.inj h
/-! M_named (II)I -/
-- names: 0 StarTalesModel('arg', 0), 1 (1, 220)(0, 12, 3), 2 (0, 8)(0, 12, 46), 3 (0, 28)(0, 12, 47), 4 (0, 422)(0, 12, 0), 5 (0, 14)(0, 12, 21), 6 (0, 13)(0, 12, 26), 7 (0, 14)(0, 12, 23), 8 (0, 14)(0, 12, 24), 9 (0, 220)(0, 12, 20), 10 (0, 220)(0, 12, 25)
-- fields: f0 = 0.taped_, f1 = 0.unlikeMany_, f2 = 0.clauses_; arrays: g0 = 1, g1 = 2, g2 = 3, g3 = 4, g4 = 5, g5 = 6, g6 = 7, g7 = 8, g8 = 9, g9 = 10; out: [('ret', None), ('f', 0), ('f', 1), ('g', 1), ('g', 2), ('g', 5), ('g', 9)]
abbrev zy_M_named : zNL := (11, [(0, 12)], [(0, 12, 4, 0), (0, 12, 48, 1), (0, 12, 13, 2)], [(0, 12, 3, 1), (0, 12, 46, 2), (0, 12, 47, 3), (0, 12, 0, 4), (0, 12, 21, 5), (0, 12, 26, 6), (0, 12, 23, 7), (0, 12, 24, 8), (0, 12, 20, 9), (0, 12, 25, 10)], [(1, 1, 220, 0), (2, 0, 8, 1), (3, 0, 28, 2), (4, 0, 422, 3), (5, 0, 14, 4), (6, 0, 13, 5), (7, 0, 14, 6), (8, 0, 14, 7), (9, 0, 220, 8), (10, 0, 220, 9)])
theorem zyw_M_named : zv_wf zy_M_named = true := by decide +kernel
theorem zye_M_named : zv_ek2 zy_M_named = true := by decide +kernel
def zf_M_named_l1_b (x1 : Int) (x3 : Int) (f0 : Int) (f2 : Int) (g1 : (Int → Int)) (g3 : (Int → Int)) (g4 : (Int → Int)) (g6 : (Int → Int)) (g7 : (Int → Int)) (g8 : (Int → Int)) (rec : Int → Int → (Int → Int) → (Int → Int) → (Int → Int) → Option (((Int × (Int → Int) × (Int → Int) × (Int → Int)) ⊕ (Int × Int × Int × (Int → Int) × (Int → Int) × (Int → Int) × (Int → Int))))) (x4 : Int) (f1 : Int) (g2 : (Int → Int)) (g5 : (Int → Int)) (g9 : (Int → Int)) : Option (((Int × (Int → Int) × (Int → Int) × (Int → Int)) ⊕ (Int × Int × Int × (Int → Int) × (Int → Int) × (Int → Int) × (Int → Int)))) := if x4 < x1 then (cond (zi_ix x3 8) ((zf_M_seenFrom (g1 x3) f2 g3 g4 g5 g6 g7 g8 g9).bind fun r11 => (cond (zi_ix x4 8) ((zf_M_seenFrom (g1 x4) f2 g3 g4 r11.2.1 g6 g7 g8 r11.2.2).bind fun r13 => (cond (zi_ix f1 28) (if ((zv_up g2 f1 (zi_xor r11.1 r13.1)) f1) = 0 then (some (.inr ((-2), f0, f1, g1, (zv_up g2 f1 (zi_xor r11.1 r13.1)), r13.2.1, r13.2.2))) else (rec (zi_w (x4 + 1)) (zi_w (f1 + 1)) (zv_up g2 f1 (zi_xor r11.1 r13.1)) r13.2.1 r13.2.2)) none)) none)) none) else (some (.inl (f1, g2, g5, g9)))
def zf_M_named_l1 (x1 : Int) (x3 : Int) (f0 : Int) (f2 : Int) (g1 : (Int → Int)) (g3 : (Int → Int)) (g4 : (Int → Int)) (g6 : (Int → Int)) (g7 : (Int → Int)) (g8 : (Int → Int)) : Nat → Int → Int → (Int → Int) → (Int → Int) → (Int → Int) → Option (((Int × (Int → Int) × (Int → Int) × (Int → Int)) ⊕ (Int × Int × Int × (Int → Int) × (Int → Int) × (Int → Int) × (Int → Int))))
  | 0, _, _, _, _, _ => none
  | n + 1, x4, f1, g2, g5, g9 => zf_M_named_l1_b x1 x3 f0 f2 g1 g3 g4 g6 g7 g8 (zf_M_named_l1 x1 x3 f0 f2 g1 g3 g4 g6 g7 g8 n) x4 f1 g2 g5 g9
def zf_M_named_l0_b (x1 : Int) (f0 : Int) (f2 : Int) (g1 : (Int → Int)) (g3 : (Int → Int)) (g4 : (Int → Int)) (g6 : (Int → Int)) (g7 : (Int → Int)) (g8 : (Int → Int)) (rec : Int → Int → (Int → Int) → (Int → Int) → (Int → Int) → Option (((Int × (Int → Int) × (Int → Int) × (Int → Int)) ⊕ (Int × Int × Int × (Int → Int) × (Int → Int) × (Int → Int) × (Int → Int))))) (x3 : Int) (f1 : Int) (g2 : (Int → Int)) (g5 : (Int → Int)) (g9 : (Int → Int)) : Option (((Int × (Int → Int) × (Int → Int) × (Int → Int)) ⊕ (Int × Int × Int × (Int → Int) × (Int → Int) × (Int → Int) × (Int → Int)))) := if x3 < x1 then ((zf_M_named_l1 x1 x3 f0 f2 g1 g3 g4 g6 g7 g8 zi_fu (zi_w (x3 + 1)) f1 g2 g5 g9).bind fun q16 => Sum.elim (fun e17 => (rec (zi_w (x3 + 1)) e17.1 e17.2.1 e17.2.2.1 e17.2.2.2)) (fun w18 => some (.inr w18)) q16) else (some (.inl (f1, g2, g5, g9)))
def zf_M_named_l0 (x1 : Int) (f0 : Int) (f2 : Int) (g1 : (Int → Int)) (g3 : (Int → Int)) (g4 : (Int → Int)) (g6 : (Int → Int)) (g7 : (Int → Int)) (g8 : (Int → Int)) : Nat → Int → Int → (Int → Int) → (Int → Int) → (Int → Int) → Option (((Int × (Int → Int) × (Int → Int) × (Int → Int)) ⊕ (Int × Int × Int × (Int → Int) × (Int → Int) × (Int → Int) × (Int → Int))))
  | 0, _, _, _, _, _ => none
  | n + 1, x3, f1, g2, g5, g9 => zf_M_named_l0_b x1 f0 f2 g1 g3 g4 g6 g7 g8 (zf_M_named_l0 x1 f0 f2 g1 g3 g4 g6 g7 g8 n) x3 f1 g2 g5 g9
def zf_M_named_l2_b (x1 : Int) (x2 : Int) (f0 : Int) (f1 : Int) (g1 : (Int → Int)) (g2 : (Int → Int)) (g3 : (Int → Int)) (g5 : (Int → Int)) (g9 : (Int → Int)) (rec : Int → Option (((Unit) ⊕ (Int × Int × Int × (Int → Int) × (Int → Int) × (Int → Int) × (Int → Int))))) (x3 : Int) : Option (((Unit) ⊕ (Int × Int × Int × (Int → Int) × (Int → Int) × (Int → Int) × (Int → Int)))) := if x3 < x1 then ((zf_M_leastOf x3 f1 g3 g2).bind fun r22 => (if r22 = (-1) then (rec (zi_w (x3 + 1))) else (if x2 = 0 then (some (.inr (x3, f0, f1, g1, g2, g5, g9))) else (some (.inr (r22, f0, f1, g1, g2, g5, g9)))))) else (some (.inl ()))
def zf_M_named_l2 (x1 : Int) (x2 : Int) (f0 : Int) (f1 : Int) (g1 : (Int → Int)) (g2 : (Int → Int)) (g3 : (Int → Int)) (g5 : (Int → Int)) (g9 : (Int → Int)) : Nat → Int → Option (((Unit) ⊕ (Int × Int × Int × (Int → Int) × (Int → Int) × (Int → Int) × (Int → Int))))
  | 0, _ => none
  | n + 1, x3 => zf_M_named_l2_b x1 x2 f0 f1 g1 g2 g3 g5 g9 (zf_M_named_l2 x1 x2 f0 f1 g1 g2 g3 g5 g9 n) x3
def zf_M_named (x1 : Int) (x2 : Int) (f0 : Int) (f1 : Int) (f2 : Int) (g0 : (Int → Int)) (g1 : (Int → Int)) (g2 : (Int → Int)) (g3 : (Int → Int)) (g4 : (Int → Int)) (g5 : (Int → Int)) (g6 : (Int → Int)) (g7 : (Int → Int)) (g8 : (Int → Int)) (g9 : (Int → Int)) : Option (Int × Int × Int × (Int → Int) × (Int → Int) × (Int → Int) × (Int → Int)) := (zf_M_in x1 2 8).bind fun r1 => (if r1 = 0 then (some ((-1), f0, f1, g1, g2, g5, g9)) else ((zf_M_in x2 0 1).bind fun r3 => (if r3 = 0 then (some ((-1), f0, f1, g1, g2, g5, g9)) else (if f0 < (zi_w (2 * x1)) then (some ((-1), f0, f1, g1, g2, g5, g9)) else ((zf_M_takesPlaces x1 g0 g1).bind fun r6 => (if r6.1 = 0 then (some ((-2), 0, f1, r6.2, g2, g5, g9)) else ((zf_M_named_l0 x1 0 f2 r6.2 g3 g4 g6 g7 g8 zi_fu 0 0 g2 g5 g9).bind fun q19 => Sum.elim (fun e20 => ((zf_M_named_l2 x1 x2 0 e20.1 r6.2 e20.2.1 g3 e20.2.2.1 e20.2.2.2 zi_fu 1).bind fun q25 => Sum.elim (fun e26 => (some ((-2), 0, e20.1, r6.2, e20.2.1, e20.2.2.1, e20.2.2.2))) (fun w27 => some w27) q25)) (fun w28 => some w28) q19)))))))
theorem zd283_0 : decode zxm283.2.1 0 = .ok (.iload_n 1, 1) := by decide +kernel
theorem zd283_1 : decode zxm283.2.1 1 = .ok (.iconst 2, 1) := by decide +kernel
theorem zd283_2 : decode zxm283.2.1 2 = .ok (.bipush 8, 2) := by decide +kernel
theorem zd283_4 : decode zxm283.2.1 4 = .ok (.invokestatic 150, 3) := by decide +kernel
theorem zd283_7 : decode zxm283.2.1 7 = .ok (.ifCond .eq 22, 3) := by decide +kernel
theorem zd283_10 : decode zxm283.2.1 10 = .ok (.iload_n 2, 1) := by decide +kernel
theorem zd283_11 : decode zxm283.2.1 11 = .ok (.iconst 0, 1) := by decide +kernel
theorem zd283_12 : decode zxm283.2.1 12 = .ok (.iconst 1, 1) := by decide +kernel
theorem zd283_13 : decode zxm283.2.1 13 = .ok (.invokestatic 150, 3) := by decide +kernel
theorem zd283_16 : decode zxm283.2.1 16 = .ok (.ifCond .eq 13, 3) := by decide +kernel
theorem zd283_19 : decode zxm283.2.1 19 = .ok (.iconst 2, 1) := by decide +kernel
theorem zd283_20 : decode zxm283.2.1 20 = .ok (.iload_n 1, 1) := by decide +kernel
theorem zd283_21 : decode zxm283.2.1 21 = .ok (.imul, 1) := by decide +kernel
theorem zd283_22 : decode zxm283.2.1 22 = .ok (.aload_n 0, 1) := by decide +kernel
theorem zd283_23 : decode zxm283.2.1 23 = .ok (.getfield 168, 3) := by decide +kernel
theorem zd283_26 : decode zxm283.2.1 26 = .ok (.if_icmp .le 5, 3) := by decide +kernel
theorem zd283_29 : decode zxm283.2.1 29 = .ok (.iconst (-1), 1) := by decide +kernel
theorem zd283_30 : decode zxm283.2.1 30 = .ok (.ireturn, 1) := by decide +kernel
theorem zd283_31 : decode zxm283.2.1 31 = .ok (.aload_n 0, 1) := by decide +kernel
theorem zd283_32 : decode zxm283.2.1 32 = .ok (.iconst 0, 1) := by decide +kernel
theorem zd283_33 : decode zxm283.2.1 33 = .ok (.putfield 168, 3) := by decide +kernel
theorem zd283_36 : decode zxm283.2.1 36 = .ok (.aload_n 0, 1) := by decide +kernel
theorem zd283_37 : decode zxm283.2.1 37 = .ok (.iload_n 1, 1) := by decide +kernel
theorem zd283_38 : decode zxm283.2.1 38 = .ok (.invokevirtual 402, 3) := by decide +kernel
theorem zd283_41 : decode zxm283.2.1 41 = .ok (.ifCond .ne 6, 3) := by decide +kernel
theorem zd283_44 : decode zxm283.2.1 44 = .ok (.bipush (-2), 2) := by decide +kernel
theorem zd283_46 : decode zxm283.2.1 46 = .ok (.ireturn, 1) := by decide +kernel
theorem zd283_47 : decode zxm283.2.1 47 = .ok (.aload_n 0, 1) := by decide +kernel
theorem zd283_48 : decode zxm283.2.1 48 = .ok (.iconst 0, 1) := by decide +kernel
theorem zd283_49 : decode zxm283.2.1 49 = .ok (.putfield 395, 3) := by decide +kernel
theorem zd283_52 : decode zxm283.2.1 52 = .ok (.iconst 0, 1) := by decide +kernel
theorem zd283_53 : decode zxm283.2.1 53 = .ok (.istore_n 3, 1) := by decide +kernel
theorem zd283_54 : decode zxm283.2.1 54 = .ok (.iload_n 3, 1) := by decide +kernel
theorem zd283_55 : decode zxm283.2.1 55 = .ok (.iload_n 1, 1) := by decide +kernel
theorem zd283_56 : decode zxm283.2.1 56 = .ok (.if_icmp .ge 82, 3) := by decide +kernel
theorem zd283_59 : decode zxm283.2.1 59 = .ok (.iload_n 3, 1) := by decide +kernel
theorem zd283_60 : decode zxm283.2.1 60 = .ok (.iconst 1, 1) := by decide +kernel
theorem zd283_61 : decode zxm283.2.1 61 = .ok (.iadd, 1) := by decide +kernel
theorem zd283_62 : decode zxm283.2.1 62 = .ok (.istore 4, 2) := by decide +kernel
theorem zd283_64 : decode zxm283.2.1 64 = .ok (.iload 4, 2) := by decide +kernel
theorem zd283_66 : decode zxm283.2.1 66 = .ok (.iload_n 1, 1) := by decide +kernel
theorem zd283_67 : decode zxm283.2.1 67 = .ok (.if_icmp .ge 65, 3) := by decide +kernel
theorem zd283_70 : decode zxm283.2.1 70 = .ok (.aload_n 0, 1) := by decide +kernel
theorem zd283_71 : decode zxm283.2.1 71 = .ok (.getfield 101, 3) := by decide +kernel
theorem zd283_74 : decode zxm283.2.1 74 = .ok (.aload_n 0, 1) := by decide +kernel
theorem zd283_75 : decode zxm283.2.1 75 = .ok (.getfield 395, 3) := by decide +kernel
theorem zd283_78 : decode zxm283.2.1 78 = .ok (.aload_n 0, 1) := by decide +kernel
theorem zd283_79 : decode zxm283.2.1 79 = .ok (.aload_n 0, 1) := by decide +kernel
theorem zd283_80 : decode zxm283.2.1 80 = .ok (.getfield 98, 3) := by decide +kernel
theorem zd283_83 : decode zxm283.2.1 83 = .ok (.iload_n 3, 1) := by decide +kernel
theorem zd283_84 : decode zxm283.2.1 84 = .ok (.iaload, 1) := by decide +kernel
theorem zd283_85 : decode zxm283.2.1 85 = .ok (.invokevirtual 300, 3) := by decide +kernel
theorem zd283_88 : decode zxm283.2.1 88 = .ok (.aload_n 0, 1) := by decide +kernel
theorem zd283_89 : decode zxm283.2.1 89 = .ok (.aload_n 0, 1) := by decide +kernel
theorem zd283_90 : decode zxm283.2.1 90 = .ok (.getfield 98, 3) := by decide +kernel
theorem zd283_93 : decode zxm283.2.1 93 = .ok (.iload 4, 2) := by decide +kernel
theorem zd283_95 : decode zxm283.2.1 95 = .ok (.iaload, 1) := by decide +kernel
theorem zd283_96 : decode zxm283.2.1 96 = .ok (.invokevirtual 300, 3) := by decide +kernel
theorem zd283_99 : decode zxm283.2.1 99 = .ok (.ixor, 1) := by decide +kernel
theorem zd283_100 : decode zxm283.2.1 100 = .ok (.iastore, 1) := by decide +kernel
theorem zd283_101 : decode zxm283.2.1 101 = .ok (.aload_n 0, 1) := by decide +kernel
theorem zd283_102 : decode zxm283.2.1 102 = .ok (.getfield 101, 3) := by decide +kernel
theorem zd283_105 : decode zxm283.2.1 105 = .ok (.aload_n 0, 1) := by decide +kernel
theorem zd283_106 : decode zxm283.2.1 106 = .ok (.getfield 395, 3) := by decide +kernel
theorem zd283_109 : decode zxm283.2.1 109 = .ok (.iaload, 1) := by decide +kernel
theorem zd283_110 : decode zxm283.2.1 110 = .ok (.ifCond .ne 6, 3) := by decide +kernel
theorem zd283_113 : decode zxm283.2.1 113 = .ok (.bipush (-2), 2) := by decide +kernel
theorem zd283_115 : decode zxm283.2.1 115 = .ok (.ireturn, 1) := by decide +kernel
theorem zd283_116 : decode zxm283.2.1 116 = .ok (.aload_n 0, 1) := by decide +kernel
theorem zd283_117 : decode zxm283.2.1 117 = .ok (.aload_n 0, 1) := by decide +kernel
theorem zd283_118 : decode zxm283.2.1 118 = .ok (.getfield 395, 3) := by decide +kernel
theorem zd283_121 : decode zxm283.2.1 121 = .ok (.iconst 1, 1) := by decide +kernel
theorem zd283_122 : decode zxm283.2.1 122 = .ok (.iadd, 1) := by decide +kernel
theorem zd283_123 : decode zxm283.2.1 123 = .ok (.putfield 395, 3) := by decide +kernel
theorem zd283_126 : decode zxm283.2.1 126 = .ok (.iinc 4 1, 3) := by decide +kernel
theorem zd283_129 : decode zxm283.2.1 129 = .ok (.goto (-65), 3) := by decide +kernel
theorem zd283_132 : decode zxm283.2.1 132 = .ok (.iinc 3 1, 3) := by decide +kernel
theorem zd283_135 : decode zxm283.2.1 135 = .ok (.goto (-81), 3) := by decide +kernel
theorem zd283_138 : decode zxm283.2.1 138 = .ok (.iconst 1, 1) := by decide +kernel
theorem zd283_139 : decode zxm283.2.1 139 = .ok (.istore_n 3, 1) := by decide +kernel
theorem zd283_140 : decode zxm283.2.1 140 = .ok (.iload_n 3, 1) := by decide +kernel
theorem zd283_141 : decode zxm283.2.1 141 = .ok (.iload_n 1, 1) := by decide +kernel
theorem zd283_142 : decode zxm283.2.1 142 = .ok (.if_icmp .ge 33, 3) := by decide +kernel
theorem zd283_145 : decode zxm283.2.1 145 = .ok (.aload_n 0, 1) := by decide +kernel
theorem zd283_146 : decode zxm283.2.1 146 = .ok (.iload_n 3, 1) := by decide +kernel
theorem zd283_147 : decode zxm283.2.1 147 = .ok (.invokevirtual 405, 3) := by decide +kernel
theorem zd283_150 : decode zxm283.2.1 150 = .ok (.istore 4, 2) := by decide +kernel
theorem zd283_152 : decode zxm283.2.1 152 = .ok (.iload 4, 2) := by decide +kernel
theorem zd283_154 : decode zxm283.2.1 154 = .ok (.iconst (-1), 1) := by decide +kernel
theorem zd283_155 : decode zxm283.2.1 155 = .ok (.if_icmp .eq 14, 3) := by decide +kernel
theorem zd283_158 : decode zxm283.2.1 158 = .ok (.iload_n 2, 1) := by decide +kernel
theorem zd283_159 : decode zxm283.2.1 159 = .ok (.ifCond .ne 7, 3) := by decide +kernel
theorem zd283_162 : decode zxm283.2.1 162 = .ok (.iload_n 3, 1) := by decide +kernel
theorem zd283_163 : decode zxm283.2.1 163 = .ok (.goto 5, 3) := by decide +kernel
theorem zd283_166 : decode zxm283.2.1 166 = .ok (.iload 4, 2) := by decide +kernel
theorem zd283_168 : decode zxm283.2.1 168 = .ok (.ireturn, 1) := by decide +kernel
theorem zd283_169 : decode zxm283.2.1 169 = .ok (.iinc 3 1, 3) := by decide +kernel
theorem zd283_172 : decode zxm283.2.1 172 = .ok (.goto (-32), 3) := by decide +kernel
theorem zd283_175 : decode zxm283.2.1 175 = .ok (.bipush (-2), 2) := by decide +kernel
theorem zd283_177 : decode zxm283.2.1 177 = .ok (.ireturn, 1) := by decide +kernel
theorem zt_M_named {x1 : Int} {x2 : Int} {f0 : Int} {f1 : Int} {f2 : Int} {g0 : (Int → Int)} {g1 : (Int → Int)} {g2 : (Int → Int)} {g3 : (Int → Int)} {g4 : (Int → Int)} {g5 : (Int → Int)} {g6 : (Int → Int)} {g7 : (Int → Int)} {g8 : (Int → Int)} {g9 : (Int → Int)} {o : Int × Int × Int × (Int → Int) × (Int → Int) × (Int → Int) × (Int → Int)} (h : zf_M_named x1 x2 f0 f1 f2 g0 g1 g2 g3 g4 g5 g6 g7 g8 g9 = some o) : zv_Fn z_TB z_cl z_KX zy_M_named zxm283 (5, 300) [.inr 0, .inl x1, .inl x2] [.inl f0, .inl f1, .inl f2] [g0, g1, g2, g3, g4, g5, g6, g7, g8, g9] (some o.1) [.inl o.2.1, .inl o.2.2.1, .inl f2] [g0, o.2.2.2.1, o.2.2.2.2.1, g3, g4, o.2.2.2.2.2.1, g6, g7, g8, o.2.2.2.2.2.2] := zv_meth (K := (z_KF13, z_KC13, z_KL13, z_KT13, [], [], [], none)) (FT := z_FT) (MT := z_MT) (n := 3) zxp283 (z_ks13 _ (fun _ h => List.mem_cons_of_mem _ h) _ _ _ _ (fun j r h _ => by cases h)) (fun _ _ => zs_KX_p) zyw_M_named (fun va F G h => by obtain ⟨rfl, _⟩ := h; rfl) (fun va F G h => by obtain ⟨rfl, _⟩ := h; rfl) rfl fun good va F G hB hret hvret hP => by
  obtain ⟨rfl, rfl, rfl⟩ := hP
  have l1 : ∀ (n : Nat) (x1 : Int) (x2 : Int) (x3 : Int) (x4 : Int) (f0 : Int) (f1 : Int) (g1 : (Int → Int)) (g2 : (Int → Int)) (g5 : (Int → Int)) (g9 : (Int → Int)) (q : ((Int × (Int → Int) × (Int → Int) × (Int → Int)) ⊕ (Int × Int × Int × (Int → Int) × (Int → Int) × (Int → Int) × (Int → Int)))), zf_M_named_l1 x1 x3 f0 f2 g1 g3 g4 g6 g7 g8 n x4 f1 g2 g5 g9 = some q → (Sum.elim (fun e : Int × (Int → Int) × (Int → Int) × (Int → Int) => good 132 [.inr 0, .inl x1, .inl x2, .inl x3, .inr 1000] [] [.inl f0, .inl e.1, .inl f2] [g0, g1, e.2.1, g3, g4, e.2.2.1, g6, g7, g8, e.2.2.2]) (fun w : Int × Int × Int × (Int → Int) × (Int → Int) × (Int → Int) × (Int → Int) => w = o) q) → good 64 [.inr 0, .inl x1, .inl x2, .inl x3, .inl x4] [] [.inl f0, .inl f1, .inl f2] [g0, g1, g2, g3, g4, g5, g6, g7, g8, g9] := by
    intro n
    induction n with
    | zero => intro x1 x2 x3 x4 f0 f1 g1 g2 g5 g9 q h; exact absurd (show none = some q from h) (fun h => by cases h)
    | succ n ih =>
      intro x1 x2 x3 x4 f0 f1 g1 g2 g5 g9 q h hK
      replace h : zf_M_named_l1_b x1 x3 f0 f2 g1 g3 g4 g6 g7 g8 (zf_M_named_l1 x1 x3 f0 f2 g1 g3 g4 g6 g7 g8 n) x4 f1 g2 g5 g9 = some q := h
      unfold zf_M_named_l1_b at h
      refine zv_ild hB zd283_64 rfl rfl ?_
      refine zv_ild hB zd283_66 rfl rfl ?_
      refine zv_cge hB zd283_67 rfl (fun hc9 => ?_) (fun hc9 => ?_)
      · rw [if_neg (Int.not_lt.mpr hc9)] at h
        have hq := Option.some.inj h
        subst hq
        refine zv_wk hB (L' := [.inr 0, .inl x1, .inl x2, .inl x3, .inr 1000]) (F' := [.inl f0, .inl f1, .inl f2]) ⟨fun _ => rfl, fun _ => rfl, fun _ => rfl, fun _ => rfl, fun (h : zv_is (.inr 1000)) => (Nat.lt_irrefl 1000 h).elim, trivial⟩ ⟨fun _ => rfl, fun _ => rfl, fun _ => rfl, trivial⟩ ?_
        exact hK
      · rw [if_pos hc9] at h
        refine zv_ald hB zd283_70 rfl rfl rfl ?_
        refine zv_getr hB zd283_71 rfl ?_
        refine zv_ald hB zd283_74 rfl rfl rfl ?_
        refine zv_getf hB zd283_75 rfl rfl (fun _ _ => ?_)
        refine zv_ald hB zd283_78 rfl rfl rfl ?_
        refine zv_ald hB zd283_79 rfl rfl rfl ?_
        refine zv_getr hB zd283_80 rfl ?_
        refine zv_ild hB zd283_83 rfl rfl ?_
        obtain ⟨c10, h⟩ := zi_if h
        refine zv_iald hB zd283_84 rfl rfl (zi_ix_ok c10).1 (zi_ix_ok c10).2 (fun _ _ => ?_)
        obtain ⟨r11, hr11, h⟩ := zi_bind h
        refine zv_cv hB (zv_emq (va2 := [.inr 0, .inl (g1 x3)]) (F := [.inl f0, .inl f1, .inl f2]) (F' := [.inl f0, .inl f1, .inl f2]) (G := [g0, g1, g2, g3, g4, g5, g6, g7, g8, g9]) (G' := [g0, g1, g2, g3, g4, r11.2.1, g6, g7, g8, r11.2.2]) (ρ := [0, 4, 5, 6, 7, 8, 9, 10]) (φ := [2]) (ψ := [3, 4, 5, 6, 7, 8, 9]) [none, none, some 0] [none, none, none, some 0, some 1, some 2, some 3, some 4, some 5, some 6] zyw_M_seenFrom zyw_M_named zye_M_named (by decide +kernel) (zt_M_seenFrom hr11) ⟨⟨_, rfl, fun _ => rfl⟩, trivial⟩ ⟨rfl, rfl, rfl, rfl, rfl, rfl, rfl, trivial⟩ rfl rfl rfl rfl rfl rfl rfl) zd283_85 zxt240 rfl (by decide) (by decide) rfl ?_
        refine zv_ald hB zd283_88 rfl rfl rfl ?_
        refine zv_ald hB zd283_89 rfl rfl rfl ?_
        refine zv_getr hB zd283_90 rfl ?_
        refine zv_ild hB zd283_93 rfl rfl ?_
        obtain ⟨c12, h⟩ := zi_if h
        refine zv_iald hB zd283_95 rfl rfl (zi_ix_ok c12).1 (zi_ix_ok c12).2 (fun _ _ => ?_)
        obtain ⟨r13, hr13, h⟩ := zi_bind h
        refine zv_cv hB (zv_emq (va2 := [.inr 0, .inl (g1 x4)]) (F := [.inl f0, .inl f1, .inl f2]) (F' := [.inl f0, .inl f1, .inl f2]) (G := [g0, g1, g2, g3, g4, r11.2.1, g6, g7, g8, r11.2.2]) (G' := [g0, g1, g2, g3, g4, r13.2.1, g6, g7, g8, r13.2.2]) (ρ := [0, 4, 5, 6, 7, 8, 9, 10]) (φ := [2]) (ψ := [3, 4, 5, 6, 7, 8, 9]) [none, none, some 0] [none, none, none, some 0, some 1, some 2, some 3, some 4, some 5, some 6] zyw_M_seenFrom zyw_M_named zye_M_named (by decide +kernel) (zt_M_seenFrom hr13) ⟨⟨_, rfl, fun _ => rfl⟩, trivial⟩ ⟨rfl, rfl, rfl, rfl, rfl, rfl, rfl, trivial⟩ rfl rfl rfl rfl rfl rfl rfl) zd283_96 zxt240 rfl (by decide) (by decide) rfl ?_
        refine zv_xorw hB zd283_99 ?_
        obtain ⟨c14, h⟩ := zi_if h
        refine zv_iast hB zd283_100 rfl rfl (zi_ix_ok c14).1 (zi_ix_ok c14).2 ?_
        refine zv_ald hB zd283_101 rfl rfl rfl ?_
        refine zv_getr hB zd283_102 rfl ?_
        refine zv_ald hB zd283_105 rfl rfl rfl ?_
        refine zv_getf hB zd283_106 rfl rfl (fun _ _ => ?_)
        refine zv_iald hB zd283_109 rfl rfl (zi_ix_ok c14).1 (zi_ix_ok c14).2 (fun _ _ => ?_)
        refine zv_zne hB zd283_110 rfl (fun hc15 => ?_) (fun hc15 => ?_)
        · rw [if_neg hc15] at h
          refine zv_ald hB zd283_116 rfl rfl rfl ?_
          refine zv_ald hB zd283_117 rfl rfl rfl ?_
          refine zv_getf hB zd283_118 rfl rfl (fun _ _ => ?_)
          refine zv_con hB zd283_121 rfl ?_
          refine zv_addw hB zd283_122 ?_
          refine zv_putf hB zd283_123 rfl rfl (fun h => by cases h) rfl ?_
          refine zv_iincw hB zd283_126 rfl rfl ?_
          refine zv_goto hB zd283_129 rfl ?_
          exact ih _ _ _ _ _ _ _ _ _ _ q h hK
        · rw [if_pos hc15] at h
          refine zv_con hB zd283_113 rfl ?_
          have hw : ((-2), f0, f1, g1, (zv_up g2 f1 (zi_xor r11.1 r13.1)), r13.2.1, r13.2.2) = o := zi_rk (Option.some.inj h) hK
          subst hw
          exact hret _ _ _ _ _ zd283_115 (by trivial) ⟨rfl, rfl, rfl⟩
  have l0 : ∀ (n : Nat) (x1 : Int) (x2 : Int) (x3 : Int) (f0 : Int) (f1 : Int) (g1 : (Int → Int)) (g2 : (Int → Int)) (g5 : (Int → Int)) (g9 : (Int → Int)) (q : ((Int × (Int → Int) × (Int → Int) × (Int → Int)) ⊕ (Int × Int × Int × (Int → Int) × (Int → Int) × (Int → Int) × (Int → Int)))), zf_M_named_l0 x1 f0 f2 g1 g3 g4 g6 g7 g8 n x3 f1 g2 g5 g9 = some q → (Sum.elim (fun e : Int × (Int → Int) × (Int → Int) × (Int → Int) => good 138 [.inr 0, .inl x1, .inl x2, .inr 1000, .inr 1000] [] [.inl f0, .inl e.1, .inl f2] [g0, g1, e.2.1, g3, g4, e.2.2.1, g6, g7, g8, e.2.2.2]) (fun w : Int × Int × Int × (Int → Int) × (Int → Int) × (Int → Int) × (Int → Int) => w = o) q) → good 54 [.inr 0, .inl x1, .inl x2, .inl x3, .inr 1000] [] [.inl f0, .inl f1, .inl f2] [g0, g1, g2, g3, g4, g5, g6, g7, g8, g9] := by
    intro n
    induction n with
    | zero => intro x1 x2 x3 f0 f1 g1 g2 g5 g9 q h; exact absurd (show none = some q from h) (fun h => by cases h)
    | succ n ih =>
      intro x1 x2 x3 f0 f1 g1 g2 g5 g9 q h hK
      replace h : zf_M_named_l0_b x1 f0 f2 g1 g3 g4 g6 g7 g8 (zf_M_named_l0 x1 f0 f2 g1 g3 g4 g6 g7 g8 n) x3 f1 g2 g5 g9 = some q := h
      unfold zf_M_named_l0_b at h
      refine zv_ild hB zd283_54 rfl rfl ?_
      refine zv_ild hB zd283_55 rfl rfl ?_
      refine zv_cge hB zd283_56 rfl (fun hc8 => ?_) (fun hc8 => ?_)
      · rw [if_neg (Int.not_lt.mpr hc8)] at h
        have hq := Option.some.inj h
        subst hq
        refine zv_wk hB (L' := [.inr 0, .inl x1, .inl x2, .inr 1000, .inr 1000]) (F' := [.inl f0, .inl f1, .inl f2]) ⟨fun _ => rfl, fun _ => rfl, fun _ => rfl, fun (h : zv_is (.inr 1000)) => (Nat.lt_irrefl 1000 h).elim, fun (h : zv_is (.inr 1000)) => (Nat.lt_irrefl 1000 h).elim, trivial⟩ ⟨fun _ => rfl, fun _ => rfl, fun _ => rfl, trivial⟩ ?_
        exact hK
      · rw [if_pos hc8] at h
        refine zv_ild hB zd283_59 rfl rfl ?_
        refine zv_con hB zd283_60 rfl ?_
        refine zv_addw hB zd283_61 ?_
        refine zv_ist hB zd283_62 rfl rfl rfl ?_
        obtain ⟨q16, hq16, h⟩ := zi_bind h
        refine l1 _ _ _ _ _ _ _ _ _ _ _ q16 hq16 ?_
        rcases q16 with e17 | w18
        · replace h := zi_sl h
          show good 132 [.inr 0, .inl x1, .inl x2, .inl x3, .inr 1000] [] [.inl f0, .inl e17.1, .inl f2] [g0, g1, e17.2.1, g3, g4, e17.2.2.1, g6, g7, g8, e17.2.2.2]
          refine zv_iincw hB zd283_132 rfl rfl ?_
          refine zv_goto hB zd283_135 rfl ?_
          exact ih _ _ _ _ _ _ _ _ _ q h hK
        · exact zi_rk (Option.some.inj h) hK
  have l2 : ∀ (n : Nat) (x1 : Int) (x2 : Int) (x3 : Int) (f0 : Int) (f1 : Int) (g1 : (Int → Int)) (g2 : (Int → Int)) (g5 : (Int → Int)) (g9 : (Int → Int)) (q : ((Unit) ⊕ (Int × Int × Int × (Int → Int) × (Int → Int) × (Int → Int) × (Int → Int)))), zf_M_named_l2 x1 x2 f0 f1 g1 g2 g3 g5 g9 n x3 = some q → (Sum.elim (fun e : Unit => good 175 [.inr 1000, .inr 1000, .inr 1000, .inr 1000, .inr 1000] [] [.inl f0, .inl f1, .inl f2] [g0, g1, g2, g3, g4, g5, g6, g7, g8, g9]) (fun w : Int × Int × Int × (Int → Int) × (Int → Int) × (Int → Int) × (Int → Int) => w = o) q) → good 140 [.inr 0, .inl x1, .inl x2, .inl x3, .inr 1000] [] [.inl f0, .inl f1, .inl f2] [g0, g1, g2, g3, g4, g5, g6, g7, g8, g9] := by
    intro n
    induction n with
    | zero => intro x1 x2 x3 f0 f1 g1 g2 g5 g9 q h; exact absurd (show none = some q from h) (fun h => by cases h)
    | succ n ih =>
      intro x1 x2 x3 f0 f1 g1 g2 g5 g9 q h hK
      replace h : zf_M_named_l2_b x1 x2 f0 f1 g1 g2 g3 g5 g9 (zf_M_named_l2 x1 x2 f0 f1 g1 g2 g3 g5 g9 n) x3 = some q := h
      unfold zf_M_named_l2_b at h
      refine zv_ild hB zd283_140 rfl rfl ?_
      refine zv_ild hB zd283_141 rfl rfl ?_
      refine zv_cge hB zd283_142 rfl (fun hc21 => ?_) (fun hc21 => ?_)
      · rw [if_neg (Int.not_lt.mpr hc21)] at h
        have hq := Option.some.inj h
        subst hq
        refine zv_wk hB (L' := [.inr 1000, .inr 1000, .inr 1000, .inr 1000, .inr 1000]) (F' := [.inl f0, .inl f1, .inl f2]) ⟨fun (h : zv_is (.inr 1000)) => (Nat.lt_irrefl 1000 h).elim, fun (h : zv_is (.inr 1000)) => (Nat.lt_irrefl 1000 h).elim, fun (h : zv_is (.inr 1000)) => (Nat.lt_irrefl 1000 h).elim, fun (h : zv_is (.inr 1000)) => (Nat.lt_irrefl 1000 h).elim, fun (h : zv_is (.inr 1000)) => (Nat.lt_irrefl 1000 h).elim, trivial⟩ ⟨fun _ => rfl, fun _ => rfl, fun _ => rfl, trivial⟩ ?_
        exact hK
      · rw [if_pos hc21] at h
        refine zv_ald hB zd283_145 rfl rfl rfl ?_
        refine zv_ild hB zd283_146 rfl rfl ?_
        obtain ⟨r22, hr22, h⟩ := zi_bind h
        refine zv_cv hB (zv_emq (va2 := [.inr 0, .inl x3]) (F := [.inl f0, .inl f1, .inl f2]) (F' := [.inl f0, .inl f1, .inl f2]) (G := [g0, g1, g2, g3, g4, g5, g6, g7, g8, g9]) (G' := [g0, g1, g2, g3, g4, g5, g6, g7, g8, g9]) (ρ := [0, 4, 3]) (φ := [1]) (ψ := [3, 2]) [none, some 0, none] [none, none, some 1, some 0, none, none, none, none, none, none] zyw_M_leastOf zyw_M_named zye_M_named (by decide +kernel) (zt_M_leastOf hr22) ⟨⟨_, rfl, fun _ => rfl⟩, trivial⟩ ⟨rfl, rfl, trivial⟩ rfl rfl rfl rfl rfl rfl rfl) zd283_147 zxt285 rfl (by decide) (by decide) rfl ?_
        refine zv_ist hB zd283_150 rfl rfl rfl ?_
        refine zv_ild hB zd283_152 rfl rfl ?_
        refine zv_con hB zd283_154 rfl ?_
        refine zv_ceq hB zd283_155 rfl (fun hc23 => ?_) (fun hc23 => ?_)
        · rw [if_pos hc23] at h
          refine zv_iincw hB zd283_169 rfl rfl ?_
          refine zv_goto hB zd283_172 rfl ?_
          refine zv_wk hB (L' := [.inr 0, .inl x1, .inl x2, .inl (zi_w (x3 + 1)), .inr 1000]) (F' := [.inl f0, .inl f1, .inl f2]) ⟨fun _ => rfl, fun _ => rfl, fun _ => rfl, fun _ => rfl, fun (h : zv_is (.inr 1000)) => (Nat.lt_irrefl 1000 h).elim, trivial⟩ ⟨fun _ => rfl, fun _ => rfl, fun _ => rfl, trivial⟩ ?_
          exact ih _ _ _ _ _ _ _ _ _ q h hK
        · rw [if_neg hc23] at h
          refine zv_ild hB zd283_158 rfl rfl ?_
          refine zv_zne hB zd283_159 rfl (fun hc24 => ?_) (fun hc24 => ?_)
          · rw [if_neg hc24] at h
            refine zv_ild hB zd283_166 rfl rfl ?_
            have hw : (r22, f0, f1, g1, g2, g5, g9) = o := zi_rk (Option.some.inj h) hK
            subst hw
            exact hret _ _ _ _ _ zd283_168 (by trivial) ⟨rfl, rfl, rfl⟩
          · rw [if_pos hc24] at h
            refine zv_ild hB zd283_162 rfl rfl ?_
            refine zv_goto hB zd283_163 rfl ?_
            have hw : (x3, f0, f1, g1, g2, g5, g9) = o := zi_rk (Option.some.inj h) hK
            subst hw
            exact hret _ _ _ _ _ zd283_168 (by trivial) ⟨rfl, rfl, rfl⟩
  unfold zf_M_named at h
  refine zv_ild hB zd283_0 rfl rfl ?_
  refine zv_con hB zd283_1 rfl ?_
  refine zv_con hB zd283_2 rfl ?_
  obtain ⟨r1, hr1, h⟩ := zi_bind h
  refine zv_cs hB (zv_emq (va2 := [.inl x1, .inl 2, .inl 8]) (F := [.inl f0, .inl f1, .inl f2]) (F' := [.inl f0, .inl f1, .inl f2]) (G := [g0, g1, g2, g3, g4, g5, g6, g7, g8, g9]) (G' := [g0, g1, g2, g3, g4, g5, g6, g7, g8, g9]) (ρ := []) (φ := []) (ψ := []) [none, none, none] [none, none, none, none, none, none, none, none, none, none] zyw_M_in zyw_M_named zye_M_named (by decide +kernel) (zt_M_in hr1) trivial trivial rfl rfl rfl rfl rfl rfl rfl) zd283_4 zxt200 rfl (by decide) (by decide) rfl ?_
  refine zv_zeq hB zd283_7 rfl (fun hc2 => ?_) (fun hc2 => ?_)
  · rw [if_pos hc2] at h
    refine zv_con hB zd283_29 rfl ?_
    have hw := Option.some.inj h
    subst hw
    exact hret _ _ _ _ _ zd283_30 (by trivial) ⟨rfl, rfl, rfl⟩
  · rw [if_neg hc2] at h
    refine zv_ild hB zd283_10 rfl rfl ?_
    refine zv_con hB zd283_11 rfl ?_
    refine zv_con hB zd283_12 rfl ?_
    obtain ⟨r3, hr3, h⟩ := zi_bind h
    refine zv_cs hB (zv_emq (va2 := [.inl x2, .inl 0, .inl 1]) (F := [.inl f0, .inl f1, .inl f2]) (F' := [.inl f0, .inl f1, .inl f2]) (G := [g0, g1, g2, g3, g4, g5, g6, g7, g8, g9]) (G' := [g0, g1, g2, g3, g4, g5, g6, g7, g8, g9]) (ρ := []) (φ := []) (ψ := []) [none, none, none] [none, none, none, none, none, none, none, none, none, none] zyw_M_in zyw_M_named zye_M_named (by decide +kernel) (zt_M_in hr3) trivial trivial rfl rfl rfl rfl rfl rfl rfl) zd283_13 zxt200 rfl (by decide) (by decide) rfl ?_
    refine zv_zeq hB zd283_16 rfl (fun hc4 => ?_) (fun hc4 => ?_)
    · rw [if_pos hc4] at h
      refine zv_con hB zd283_29 rfl ?_
      have hw := Option.some.inj h
      subst hw
      exact hret _ _ _ _ _ zd283_30 (by trivial) ⟨rfl, rfl, rfl⟩
    · rw [if_neg hc4] at h
      refine zv_con hB zd283_19 rfl ?_
      refine zv_ild hB zd283_20 rfl rfl ?_
      refine zv_mulw hB zd283_21 ?_
      refine zv_ald hB zd283_22 rfl rfl rfl ?_
      refine zv_getf hB zd283_23 rfl rfl (fun _ _ => ?_)
      refine zv_cle hB zd283_26 rfl (fun hc5 => ?_) (fun hc5 => ?_)
      · rw [if_neg (Int.not_lt.mpr hc5)] at h
        refine zv_ald hB zd283_31 rfl rfl rfl ?_
        refine zv_con hB zd283_32 rfl ?_
        refine zv_putf hB zd283_33 rfl rfl (fun h => by cases h) rfl ?_
        refine zv_ald hB zd283_36 rfl rfl rfl ?_
        refine zv_ild hB zd283_37 rfl rfl ?_
        obtain ⟨r6, hr6, h⟩ := zi_bind h
        refine zv_cv hB (zv_emq (va2 := [.inr 0, .inl x1]) (F := [.inl 0, .inl f1, .inl f2]) (F' := [.inl 0, .inl f1, .inl f2]) (G := [g0, g1, g2, g3, g4, g5, g6, g7, g8, g9]) (G' := [g0, r6.2, g2, g3, g4, g5, g6, g7, g8, g9]) (ρ := [0, 1, 2]) (φ := []) (ψ := [0, 1]) [none, none, none] [some 0, some 1, none, none, none, none, none, none, none, none] zyw_M_takesPlaces zyw_M_named zye_M_named (by decide +kernel) (zt_M_takesPlaces hr6) trivial ⟨rfl, rfl, trivial⟩ rfl rfl rfl rfl rfl rfl rfl) zd283_38 zxt284 rfl (by decide) (by decide) rfl ?_
        refine zv_zne hB zd283_41 rfl (fun hc7 => ?_) (fun hc7 => ?_)
        · rw [if_neg hc7] at h
          refine zv_ald hB zd283_47 rfl rfl rfl ?_
          refine zv_con hB zd283_48 rfl ?_
          refine zv_putf hB zd283_49 rfl rfl (fun h => by cases h) rfl ?_
          refine zv_con hB zd283_52 rfl ?_
          refine zv_ist hB zd283_53 rfl rfl rfl ?_
          obtain ⟨q19, hq19, h⟩ := zi_bind h
          refine l0 _ _ _ _ _ _ _ _ _ _ q19 hq19 ?_
          rcases q19 with e20 | w28
          · replace h := zi_sl h
            show good 138 [.inr 0, .inl x1, .inl x2, .inr 1000, .inr 1000] [] [.inl 0, .inl e20.1, .inl f2] [g0, r6.2, e20.2.1, g3, g4, e20.2.2.1, g6, g7, g8, e20.2.2.2]
            refine zv_con hB zd283_138 rfl ?_
            refine zv_ist hB zd283_139 rfl rfl rfl ?_
            obtain ⟨q25, hq25, h⟩ := zi_bind h
            refine l2 _ _ _ _ _ _ _ _ _ _ q25 hq25 ?_
            rcases q25 with e26 | w27
            · replace h := zi_sl h
              show good 175 [.inr 1000, .inr 1000, .inr 1000, .inr 1000, .inr 1000] [] [.inl 0, .inl e20.1, .inl f2] [g0, r6.2, e20.2.1, g3, g4, e20.2.2.1, g6, g7, g8, e20.2.2.2]
              refine zv_con hB zd283_175 rfl ?_
              have hw := Option.some.inj h
              subst hw
              exact hret _ _ _ _ _ zd283_177 (by trivial) ⟨rfl, rfl, rfl⟩
            · exact Option.some.inj h
          · exact Option.some.inj h
        · rw [if_pos hc7] at h
          refine zv_con hB zd283_44 rfl ?_
          have hw := Option.some.inj h
          subst hw
          exact hret _ _ _ _ _ zd283_46 (by trivial) ⟨rfl, rfl, rfl⟩
      · rw [if_pos hc5] at h
        refine zv_con hB zd283_29 rfl ?_
        have hw := Option.some.inj h
        subst hw
        exact hret _ _ _ _ _ zd283_30 (by trivial) ⟨rfl, rfl, rfl⟩
/-! M_byLaw (II)I -/
-- names: 0 StarTalesModel('arg', 0), 1 (0, 14)(0, 12, 21), 2 (0, 14)(0, 12, 23), 3 (0, 14)(0, 12, 24), 4 (0, 220)(0, 12, 20), 5 (0, 220)(0, 12, 25), 6 (0, 13)(0, 12, 26), 7 (0, 14)(0, 12, 22)
-- fields: f0 = 0.clauses_; arrays: g0 = 1, g1 = 2, g2 = 3, g3 = 4, g4 = 5, g5 = 6, g6 = 7; out: [('ret', None), ('g', 4)]
abbrev zy_M_byLaw : zNL := (8, [(0, 12)], [(0, 12, 13, 0)], [(0, 12, 21, 1), (0, 12, 23, 2), (0, 12, 24, 3), (0, 12, 20, 4), (0, 12, 25, 5), (0, 12, 26, 6), (0, 12, 22, 7)], [(1, 0, 14, 0), (2, 0, 14, 1), (3, 0, 14, 2), (4, 0, 220, 3), (5, 0, 220, 4), (6, 0, 13, 5), (7, 0, 14, 6)])
theorem zyw_M_byLaw : zv_wf zy_M_byLaw = true := by decide +kernel
theorem zye_M_byLaw : zv_ek2 zy_M_byLaw = true := by decide +kernel
def zf_M_byLaw_l0_b (x1 : Int) (x2 : Int) (f0 : Int) (g0 : (Int → Int)) (g1 : (Int → Int)) (g2 : (Int → Int)) (g3 : (Int → Int)) (g5 : (Int → Int)) (g6 : (Int → Int)) (rec : Int → (Int → Int) → Option ((((Int → Int)) ⊕ (Int × (Int → Int))))) (x3 : Int) (g4 : (Int → Int)) : Option ((((Int → Int)) ⊕ (Int × (Int → Int)))) := if x3 < f0 then (cond (zi_ix x3 14) (if (g0 x3) = x1 then ((zf_M_comesTo (g1 x3) (g2 x3) g3 g4 g5).bind fun r4 => (if r4.1 = 1 then ((zf_M_comesTo (g6 x3) (g1 x3) g3 r4.2 g5).bind fun r6 => (if r6.1 < 0 then (some (.inr (0, r6.2))) else (if x2 < r6.1 then (some (.inr (x2, r6.2))) else (some (.inr (r6.1, r6.2)))))) else (rec (zi_w (x3 + 1)) r4.2))) else (rec (zi_w (x3 + 1)) g4)) none) else (some (.inl g4))
def zf_M_byLaw_l0 (x1 : Int) (x2 : Int) (f0 : Int) (g0 : (Int → Int)) (g1 : (Int → Int)) (g2 : (Int → Int)) (g3 : (Int → Int)) (g5 : (Int → Int)) (g6 : (Int → Int)) : Nat → Int → (Int → Int) → Option ((((Int → Int)) ⊕ (Int × (Int → Int))))
  | 0, _, _ => none
  | n + 1, x3, g4 => zf_M_byLaw_l0_b x1 x2 f0 g0 g1 g2 g3 g5 g6 (zf_M_byLaw_l0 x1 x2 f0 g0 g1 g2 g3 g5 g6 n) x3 g4
def zf_M_byLaw (x1 : Int) (x2 : Int) (f0 : Int) (g0 : (Int → Int)) (g1 : (Int → Int)) (g2 : (Int → Int)) (g3 : (Int → Int)) (g4 : (Int → Int)) (g5 : (Int → Int)) (g6 : (Int → Int)) : Option (Int × (Int → Int)) := (zf_M_byLaw_l0 x1 x2 f0 g0 g1 g2 g3 g5 g6 zi_fu 0 g4).bind fun q9 => Sum.elim (fun e10 => (some (0, e10))) (fun w11 => some w11) q9
theorem zd288_0 : decode zxm288.2.1 0 = .ok (.iconst 0, 1) := by decide +kernel
theorem zd288_1 : decode zxm288.2.1 1 = .ok (.istore_n 3, 1) := by decide +kernel
theorem zd288_2 : decode zxm288.2.1 2 = .ok (.iload_n 3, 1) := by decide +kernel
theorem zd288_3 : decode zxm288.2.1 3 = .ok (.aload_n 0, 1) := by decide +kernel
theorem zd288_4 : decode zxm288.2.1 4 = .ok (.getfield 268, 3) := by decide +kernel
theorem zd288_7 : decode zxm288.2.1 7 = .ok (.if_icmp .ge 82, 3) := by decide +kernel
theorem zd288_10 : decode zxm288.2.1 10 = .ok (.aload_n 0, 1) := by decide +kernel
theorem zd288_11 : decode zxm288.2.1 11 = .ok (.getfield 44, 3) := by decide +kernel
theorem zd288_14 : decode zxm288.2.1 14 = .ok (.iload_n 3, 1) := by decide +kernel
theorem zd288_15 : decode zxm288.2.1 15 = .ok (.iaload, 1) := by decide +kernel
theorem zd288_16 : decode zxm288.2.1 16 = .ok (.iload_n 1, 1) := by decide +kernel
theorem zd288_17 : decode zxm288.2.1 17 = .ok (.if_icmp .ne 66, 3) := by decide +kernel
theorem zd288_20 : decode zxm288.2.1 20 = .ok (.aload_n 0, 1) := by decide +kernel
theorem zd288_21 : decode zxm288.2.1 21 = .ok (.aload_n 0, 1) := by decide +kernel
theorem zd288_22 : decode zxm288.2.1 22 = .ok (.getfield 50, 3) := by decide +kernel
theorem zd288_25 : decode zxm288.2.1 25 = .ok (.iload_n 3, 1) := by decide +kernel
theorem zd288_26 : decode zxm288.2.1 26 = .ok (.iaload, 1) := by decide +kernel
theorem zd288_27 : decode zxm288.2.1 27 = .ok (.aload_n 0, 1) := by decide +kernel
theorem zd288_28 : decode zxm288.2.1 28 = .ok (.getfield 53, 3) := by decide +kernel
theorem zd288_31 : decode zxm288.2.1 31 = .ok (.iload_n 3, 1) := by decide +kernel
theorem zd288_32 : decode zxm288.2.1 32 = .ok (.iaload, 1) := by decide +kernel
theorem zd288_33 : decode zxm288.2.1 33 = .ok (.invokevirtual 275, 3) := by decide +kernel
theorem zd288_36 : decode zxm288.2.1 36 = .ok (.iconst 1, 1) := by decide +kernel
theorem zd288_37 : decode zxm288.2.1 37 = .ok (.if_icmp .eq 6, 3) := by decide +kernel
theorem zd288_40 : decode zxm288.2.1 40 = .ok (.goto 43, 3) := by decide +kernel
theorem zd288_43 : decode zxm288.2.1 43 = .ok (.aload_n 0, 1) := by decide +kernel
theorem zd288_44 : decode zxm288.2.1 44 = .ok (.aload_n 0, 1) := by decide +kernel
theorem zd288_45 : decode zxm288.2.1 45 = .ok (.getfield 47, 3) := by decide +kernel
theorem zd288_48 : decode zxm288.2.1 48 = .ok (.iload_n 3, 1) := by decide +kernel
theorem zd288_49 : decode zxm288.2.1 49 = .ok (.iaload, 1) := by decide +kernel
theorem zd288_50 : decode zxm288.2.1 50 = .ok (.aload_n 0, 1) := by decide +kernel
theorem zd288_51 : decode zxm288.2.1 51 = .ok (.getfield 50, 3) := by decide +kernel
theorem zd288_54 : decode zxm288.2.1 54 = .ok (.iload_n 3, 1) := by decide +kernel
theorem zd288_55 : decode zxm288.2.1 55 = .ok (.iaload, 1) := by decide +kernel
theorem zd288_56 : decode zxm288.2.1 56 = .ok (.invokevirtual 275, 3) := by decide +kernel
theorem zd288_59 : decode zxm288.2.1 59 = .ok (.istore 4, 2) := by decide +kernel
theorem zd288_61 : decode zxm288.2.1 61 = .ok (.iload 4, 2) := by decide +kernel
theorem zd288_63 : decode zxm288.2.1 63 = .ok (.ifCond .ge 7, 3) := by decide +kernel
theorem zd288_66 : decode zxm288.2.1 66 = .ok (.iconst 0, 1) := by decide +kernel
theorem zd288_67 : decode zxm288.2.1 67 = .ok (.goto 15, 3) := by decide +kernel
theorem zd288_70 : decode zxm288.2.1 70 = .ok (.iload 4, 2) := by decide +kernel
theorem zd288_72 : decode zxm288.2.1 72 = .ok (.iload_n 2, 1) := by decide +kernel
theorem zd288_73 : decode zxm288.2.1 73 = .ok (.if_icmp .le 7, 3) := by decide +kernel
theorem zd288_76 : decode zxm288.2.1 76 = .ok (.iload_n 2, 1) := by decide +kernel
theorem zd288_77 : decode zxm288.2.1 77 = .ok (.goto 5, 3) := by decide +kernel
theorem zd288_80 : decode zxm288.2.1 80 = .ok (.iload 4, 2) := by decide +kernel
theorem zd288_82 : decode zxm288.2.1 82 = .ok (.ireturn, 1) := by decide +kernel
theorem zd288_83 : decode zxm288.2.1 83 = .ok (.iinc 3 1, 3) := by decide +kernel
theorem zd288_86 : decode zxm288.2.1 86 = .ok (.goto (-84), 3) := by decide +kernel
theorem zd288_89 : decode zxm288.2.1 89 = .ok (.iconst 0, 1) := by decide +kernel
theorem zd288_90 : decode zxm288.2.1 90 = .ok (.ireturn, 1) := by decide +kernel
theorem zt_M_byLaw {x1 : Int} {x2 : Int} {f0 : Int} {g0 : (Int → Int)} {g1 : (Int → Int)} {g2 : (Int → Int)} {g3 : (Int → Int)} {g4 : (Int → Int)} {g5 : (Int → Int)} {g6 : (Int → Int)} {o : Int × (Int → Int)} (h : zf_M_byLaw x1 x2 f0 g0 g1 g2 g3 g4 g5 g6 = some o) : zv_Fn z_TB z_cl z_KX zy_M_byLaw zxm288 (2, 120) [.inr 0, .inl x1, .inl x2] [.inl f0] [g0, g1, g2, g3, g4, g5, g6] (some o.1) [.inl f0] [g0, g1, g2, g3, o.2, g5, g6] := zv_meth (K := (z_KF13, z_KC13, z_KL13, z_KT13, [], [], [], none)) (FT := z_FT) (MT := z_MT) (n := 3) zxp288 (z_ks13 _ (fun _ h => List.mem_cons_of_mem _ h) _ _ _ _ (fun j r h _ => by cases h)) (fun _ _ => zs_KX_p) zyw_M_byLaw (fun va F G h => by obtain ⟨rfl, _⟩ := h; rfl) (fun va F G h => by obtain ⟨rfl, _⟩ := h; rfl) rfl fun good va F G hB hret hvret hP => by
  obtain ⟨rfl, rfl, rfl⟩ := hP
  have l0 : ∀ (n : Nat) (x1 : Int) (x2 : Int) (x3 : Int) (g4 : (Int → Int)) (q : (((Int → Int)) ⊕ (Int × (Int → Int)))), zf_M_byLaw_l0 x1 x2 f0 g0 g1 g2 g3 g5 g6 n x3 g4 = some q → (Sum.elim (fun e : (Int → Int) => good 89 [.inr 1000, .inr 1000, .inr 1000, .inr 1000, .inr 1000] [] [.inl f0] [g0, g1, g2, g3, e, g5, g6]) (fun w : Int × (Int → Int) => w = o) q) → good 2 [.inr 0, .inl x1, .inl x2, .inl x3, .inr 1000] [] [.inl f0] [g0, g1, g2, g3, g4, g5, g6] := by
    intro n
    induction n with
    | zero => intro x1 x2 x3 g4 q h; exact absurd (show none = some q from h) (fun h => by cases h)
    | succ n ih =>
      intro x1 x2 x3 g4 q h hK
      replace h : zf_M_byLaw_l0_b x1 x2 f0 g0 g1 g2 g3 g5 g6 (zf_M_byLaw_l0 x1 x2 f0 g0 g1 g2 g3 g5 g6 n) x3 g4 = some q := h
      unfold zf_M_byLaw_l0_b at h
      refine zv_ild hB zd288_2 rfl rfl ?_
      refine zv_ald hB zd288_3 rfl rfl rfl ?_
      refine zv_getf hB zd288_4 rfl rfl (fun _ _ => ?_)
      refine zv_cge hB zd288_7 rfl (fun hc1 => ?_) (fun hc1 => ?_)
      · rw [if_neg (Int.not_lt.mpr hc1)] at h
        have hq := Option.some.inj h
        subst hq
        refine zv_wk hB (L' := [.inr 1000, .inr 1000, .inr 1000, .inr 1000, .inr 1000]) (F' := [.inl f0]) ⟨fun (h : zv_is (.inr 1000)) => (Nat.lt_irrefl 1000 h).elim, fun (h : zv_is (.inr 1000)) => (Nat.lt_irrefl 1000 h).elim, fun (h : zv_is (.inr 1000)) => (Nat.lt_irrefl 1000 h).elim, fun (h : zv_is (.inr 1000)) => (Nat.lt_irrefl 1000 h).elim, fun (h : zv_is (.inr 1000)) => (Nat.lt_irrefl 1000 h).elim, trivial⟩ ⟨fun _ => rfl, trivial⟩ ?_
        exact hK
      · rw [if_pos hc1] at h
        refine zv_ald hB zd288_10 rfl rfl rfl ?_
        refine zv_getr hB zd288_11 rfl ?_
        refine zv_ild hB zd288_14 rfl rfl ?_
        obtain ⟨c2, h⟩ := zi_if h
        refine zv_iald hB zd288_15 rfl rfl (zi_ix_ok c2).1 (zi_ix_ok c2).2 (fun _ _ => ?_)
        refine zv_ild hB zd288_16 rfl rfl ?_
        refine zv_cne hB zd288_17 rfl (fun hc3 => ?_) (fun hc3 => ?_)
        · rw [if_neg hc3] at h
          refine zv_iincw hB zd288_83 rfl rfl ?_
          refine zv_goto hB zd288_86 rfl ?_
          exact ih _ _ _ _ q h hK
        · rw [if_pos hc3] at h
          refine zv_ald hB zd288_20 rfl rfl rfl ?_
          refine zv_ald hB zd288_21 rfl rfl rfl ?_
          refine zv_getr hB zd288_22 rfl ?_
          refine zv_ild hB zd288_25 rfl rfl ?_
          refine zv_iald hB zd288_26 rfl rfl (zi_ix_ok c2).1 (zi_ix_ok c2).2 (fun _ _ => ?_)
          refine zv_ald hB zd288_27 rfl rfl rfl ?_
          refine zv_getr hB zd288_28 rfl ?_
          refine zv_ild hB zd288_31 rfl rfl ?_
          refine zv_iald hB zd288_32 rfl rfl (zi_ix_ok c2).1 (zi_ix_ok c2).2 (fun _ _ => ?_)
          obtain ⟨r4, hr4, h⟩ := zi_bind h
          refine zv_cv hB (zv_emq (va2 := [.inr 0, .inl (g1 x3), .inl (g2 x3)]) (F := [.inl f0]) (F' := [.inl f0]) (G := [g0, g1, g2, g3, g4, g5, g6]) (G' := [g0, g1, g2, g3, r4.2, g5, g6]) (ρ := [0, 4, 5, 6]) (φ := []) (ψ := [3, 4, 5]) [none] [none, none, none, some 0, some 1, some 2, none] zyw_M_comesTo zyw_M_byLaw zye_M_byLaw (by decide +kernel) (zt_M_comesTo hr4) trivial ⟨rfl, rfl, rfl, trivial⟩ rfl rfl rfl rfl rfl rfl rfl) zd288_33 zxt249 rfl (by decide) (by decide) rfl ?_
          refine zv_con hB zd288_36 rfl ?_
          refine zv_ceq hB zd288_37 rfl (fun hc5 => ?_) (fun hc5 => ?_)
          · rw [if_pos hc5] at h
            refine zv_ald hB zd288_43 rfl rfl rfl ?_
            refine zv_ald hB zd288_44 rfl rfl rfl ?_
            refine zv_getr hB zd288_45 rfl ?_
            refine zv_ild hB zd288_48 rfl rfl ?_
            refine zv_iald hB zd288_49 rfl rfl (zi_ix_ok c2).1 (zi_ix_ok c2).2 (fun _ _ => ?_)
            refine zv_ald hB zd288_50 rfl rfl rfl ?_
            refine zv_getr hB zd288_51 rfl ?_
            refine zv_ild hB zd288_54 rfl rfl ?_
            refine zv_iald hB zd288_55 rfl rfl (zi_ix_ok c2).1 (zi_ix_ok c2).2 (fun _ _ => ?_)
            obtain ⟨r6, hr6, h⟩ := zi_bind h
            refine zv_cv hB (zv_emq (va2 := [.inr 0, .inl (g6 x3), .inl (g1 x3)]) (F := [.inl f0]) (F' := [.inl f0]) (G := [g0, g1, g2, g3, r4.2, g5, g6]) (G' := [g0, g1, g2, g3, r6.2, g5, g6]) (ρ := [0, 4, 5, 6]) (φ := []) (ψ := [3, 4, 5]) [none] [none, none, none, some 0, some 1, some 2, none] zyw_M_comesTo zyw_M_byLaw zye_M_byLaw (by decide +kernel) (zt_M_comesTo hr6) trivial ⟨rfl, rfl, rfl, trivial⟩ rfl rfl rfl rfl rfl rfl rfl) zd288_56 zxt249 rfl (by decide) (by decide) rfl ?_
            refine zv_ist hB zd288_59 rfl rfl rfl ?_
            refine zv_ild hB zd288_61 rfl rfl ?_
            refine zv_zge hB zd288_63 rfl (fun hc7 => ?_) (fun hc7 => ?_)
            · rw [if_neg (Int.not_lt.mpr hc7)] at h
              refine zv_ild hB zd288_70 rfl rfl ?_
              refine zv_ild hB zd288_72 rfl rfl ?_
              refine zv_cle hB zd288_73 rfl (fun hc8 => ?_) (fun hc8 => ?_)
              · rw [if_neg (Int.not_lt.mpr hc8)] at h
                refine zv_ild hB zd288_80 rfl rfl ?_
                have hw : (r6.1, r6.2) = o := zi_rk (Option.some.inj h) hK
                subst hw
                exact hret _ _ _ _ _ zd288_82 (by trivial) ⟨rfl, rfl, rfl⟩
              · rw [if_pos hc8] at h
                refine zv_ild hB zd288_76 rfl rfl ?_
                refine zv_goto hB zd288_77 rfl ?_
                have hw : (x2, r6.2) = o := zi_rk (Option.some.inj h) hK
                subst hw
                exact hret _ _ _ _ _ zd288_82 (by trivial) ⟨rfl, rfl, rfl⟩
            · rw [if_pos hc7] at h
              refine zv_con hB zd288_66 rfl ?_
              refine zv_goto hB zd288_67 rfl ?_
              have hw : (0, r6.2) = o := zi_rk (Option.some.inj h) hK
              subst hw
              exact hret _ _ _ _ _ zd288_82 (by trivial) ⟨rfl, rfl, rfl⟩
          · rw [if_neg hc5] at h
            refine zv_goto hB zd288_40 rfl ?_
            refine zv_iincw hB zd288_83 rfl rfl ?_
            refine zv_goto hB zd288_86 rfl ?_
            exact ih _ _ _ _ q h hK
  unfold zf_M_byLaw at h
  refine zv_con hB zd288_0 rfl ?_
  refine zv_ist hB zd288_1 rfl rfl rfl ?_
  obtain ⟨q9, hq9, h⟩ := zi_bind h
  refine l0 _ _ _ _ _ q9 hq9 ?_
  rcases q9 with e10 | w11
  · replace h := zi_sl h
    show good 89 [.inr 1000, .inr 1000, .inr 1000, .inr 1000, .inr 1000] [] [.inl f0] [g0, g1, g2, g3, e10, g5, g6]
    refine zv_con hB zd288_89 rfl ?_
    have hw := Option.some.inj h
    subst hw
    exact hret _ _ _ _ _ zd288_90 (by trivial) ⟨rfl, rfl, rfl⟩
  · exact Option.some.inj h
end
section
/-! Methods as functions, and that they do what these do. -/
/-! M_sold (II)I -/
-- names: 0 StarTalesModel('arg', 0), 1 (0, 13)(0, 12, 26), 2 (0, 422)(0, 12, 0), 3 (0, 24)(0, 12, 49), 4 (0, 24)(0, 12, 50), 5 (0, 14)(0, 12, 21), 6 (0, 14)(0, 12, 23), 7 (0, 14)(0, 12, 24), 8 (0, 220)(0, 12, 20), 9 (0, 220)(0, 12, 25), 10 (0, 14)(0, 12, 22), 11 (0, 25000)(0, 12, 51)
-- fields: f0 = 0.clauses_; arrays: g0 = 1, g1 = 2, g2 = 3, g3 = 4, g4 = 5, g5 = 6, g6 = 7, g7 = 8, g8 = 9, g9 = 10, g10 = 11; out: [('ret', None), ('g', 0), ('g', 2), ('g', 3), ('g', 8), ('g', 10)]
abbrev zy_M_sold : zNL := (12, [(0, 12)], [(0, 12, 13, 0)], [(0, 12, 26, 1), (0, 12, 0, 2), (0, 12, 49, 3), (0, 12, 50, 4), (0, 12, 21, 5), (0, 12, 23, 6), (0, 12, 24, 7), (0, 12, 20, 8), (0, 12, 25, 9), (0, 12, 22, 10), (0, 12, 51, 11)], [(1, 0, 13, 0), (2, 0, 422, 1), (3, 0, 24, 2), (4, 0, 24, 3), (5, 0, 14, 4), (6, 0, 14, 5), (7, 0, 14, 6), (8, 0, 220, 7), (9, 0, 220, 8), (10, 0, 14, 9), (11, 0, 25000, 10)])
theorem zyw_M_sold : zv_wf zy_M_sold = true := by decide +kernel
theorem zye_M_sold : zv_ek2 zy_M_sold = true := by decide +kernel
def zf_M_sold_l0_b (f0 : Int) (g1 : (Int → Int)) (g4 : (Int → Int)) (g5 : (Int → Int)) (g6 : (Int → Int)) (g7 : (Int → Int)) (g9 : (Int → Int)) (rec : Int → (Int → Int) → (Int → Int) → (Int → Int) → (Int → Int) → Option ((Int → Int) × (Int → Int) × (Int → Int) × (Int → Int))) (x3 : Int) (g0 : (Int → Int)) (g2 : (Int → Int)) (g3 : (Int → Int)) (g8 : (Int → Int)) : Option ((Int → Int) × (Int → Int) × (Int → Int) × (Int → Int)) := if x3 < 24 then ((zf_M_feelsStar x3 g0 g1).bind fun r6 => ((zf_M_isTold x3 g1).bind fun r7 => (if r7 = 0 then (cond (zi_ix x3 24) ((zf_M_isTold x3 g1).bind fun r10 => (if r10 = 0 then (rec (zi_w (x3 + 1)) r6 (zv_up g2 x3 0) (zv_up g3 x3 0) g8) else ((zf_M_byLaw 103 99 f0 g4 g5 g6 g7 g8 r6 g9).bind fun r12 => (rec (zi_w (x3 + 1)) r6 (zv_up g2 x3 0) (zv_up g3 x3 r12.1) r12.2)))) none) else ((zf_M_byLaw 119 999 f0 g4 g5 g6 g7 g8 r6 g9).bind fun r13 => (cond (zi_ix x3 24) ((zf_M_isTold x3 g1).bind fun r15 => (if r15 = 0 then (rec (zi_w (x3 + 1)) r6 (zv_up g2 x3 r13.1) (zv_up g3 x3 0) r13.2) else ((zf_M_byLaw 103 99 f0 g4 g5 g6 g7 r13.2 r6 g9).bind fun r17 => (rec (zi_w (x3 + 1)) r6 (zv_up g2 x3 r13.1) (zv_up g3 x3 r17.1) r17.2)))) none))))) else (some (g0, g2, g3, g8))
def zf_M_sold_l0 (f0 : Int) (g1 : (Int → Int)) (g4 : (Int → Int)) (g5 : (Int → Int)) (g6 : (Int → Int)) (g7 : (Int → Int)) (g9 : (Int → Int)) : Nat → Int → (Int → Int) → (Int → Int) → (Int → Int) → (Int → Int) → Option ((Int → Int) × (Int → Int) × (Int → Int) × (Int → Int))
  | 0, _, _, _, _, _ => none
  | n + 1, x3, g0, g2, g3, g8 => zf_M_sold_l0_b f0 g1 g4 g5 g6 g7 g9 (zf_M_sold_l0 f0 g1 g4 g5 g6 g7 g9 n) x3 g0 g2 g3 g8
def zf_M_sold_l1_b (x1 : Int) (rec : Int → (Int → Int) → Option ((Int → Int))) (x3 : Int) (g10 : (Int → Int)) : Option ((Int → Int)) := if x1 < x3 then (some g10) else (cond (zi_ix x3 25000) (rec (zi_w (x3 + 1)) (zv_up g10 x3 0)) none)
def zf_M_sold_l1 (x1 : Int) : Nat → Int → (Int → Int) → Option ((Int → Int))
  | 0, _, _ => none
  | n + 1, x3, g10 => zf_M_sold_l1_b x1 (zf_M_sold_l1 x1 n) x3 g10
def zf_M_sold_l3_b (x1 : Int) (x3 : Int) (g1 : (Int → Int)) (g2 : (Int → Int)) (g3 : (Int → Int)) (rec : Int → (Int → Int) → Option ((Int → Int))) (x4 : Int) (g10 : (Int → Int)) : Option ((Int → Int)) := if x1 < x4 then (some g10) else (cond (zi_ix (zi_w ((zi_w (1000 * x3)) + x4)) 25000) ((zf_M_isTold x3 g1).bind fun r25 => (if r25 = 0 then (cond (zi_ix (zi_w ((zi_w (1000 * (zi_w (x3 + 1)))) + x4)) 25000) (rec (zi_w (x4 + 1)) (zv_up g10 (zi_w ((zi_w (1000 * (zi_w (x3 + 1)))) + x4)) (g10 (zi_w ((zi_w (1000 * x3)) + x4))))) none) else (cond (zi_ix x3 24) (if x4 < (g3 x3) then (cond (zi_ix (zi_w ((zi_w (1000 * (zi_w (x3 + 1)))) + x4)) 25000) (rec (zi_w (x4 + 1)) (zv_up g10 (zi_w ((zi_w (1000 * (zi_w (x3 + 1)))) + x4)) (g10 (zi_w ((zi_w (1000 * x3)) + x4))))) none) else (cond (zi_ix (zi_w ((zi_w ((zi_w (1000 * x3)) + x4)) - (g3 x3))) 25000) ((zf_M_max (g10 (zi_w ((zi_w (1000 * x3)) + x4))) (zi_w ((g2 x3) + (g10 (zi_w ((zi_w ((zi_w (1000 * x3)) + x4)) - (g3 x3))))))).bind fun r32 => (cond (zi_ix (zi_w ((zi_w (1000 * (zi_w (x3 + 1)))) + x4)) 25000) (rec (zi_w (x4 + 1)) (zv_up g10 (zi_w ((zi_w (1000 * (zi_w (x3 + 1)))) + x4)) r32)) none)) none)) none))) none)
def zf_M_sold_l3 (x1 : Int) (x3 : Int) (g1 : (Int → Int)) (g2 : (Int → Int)) (g3 : (Int → Int)) : Nat → Int → (Int → Int) → Option ((Int → Int))
  | 0, _, _ => none
  | n + 1, x4, g10 => zf_M_sold_l3_b x1 x3 g1 g2 g3 (zf_M_sold_l3 x1 x3 g1 g2 g3 n) x4 g10
def zf_M_sold_l2_b (x1 : Int) (g1 : (Int → Int)) (g2 : (Int → Int)) (g3 : (Int → Int)) (rec : Int → (Int → Int) → Option ((Int → Int))) (x3 : Int) (g10 : (Int → Int)) : Option ((Int → Int)) := if x3 < 24 then ((zf_M_sold_l3 x1 x3 g1 g2 g3 zi_fu 0 g10).bind fun q34 => (rec (zi_w (x3 + 1)) q34)) else (some g10)
def zf_M_sold_l2 (x1 : Int) (g1 : (Int → Int)) (g2 : (Int → Int)) (g3 : (Int → Int)) : Nat → Int → (Int → Int) → Option ((Int → Int))
  | 0, _, _ => none
  | n + 1, x3, g10 => zf_M_sold_l2_b x1 g1 g2 g3 (zf_M_sold_l2 x1 g1 g2 g3 n) x3 g10
def zf_M_sold_l4_b (g3 : (Int → Int)) (g10 : (Int → Int)) (rec : Int → Int → Int → Option (Int × Int)) (x3 : Int) (x4 : Int) (x5 : Int) : Option (Int × Int) := if x5 < 0 then (some (x3, x4)) else (cond (zi_ix (zi_w ((zi_w (1000 * x5)) + x3)) 25000) (cond (zi_ix (zi_w ((zi_w (1000 * (zi_w (x5 + 1)))) + x3)) 25000) (if (g10 (zi_w ((zi_w (1000 * x5)) + x3))) = (g10 (zi_w ((zi_w (1000 * (zi_w (x5 + 1)))) + x3))) then (rec x3 x4 (zi_w (x5 + (-1)))) else (cond (zi_ix x5 24) (rec (zi_w (x3 - (g3 x5))) (zi_or x4 (zi_shl 1 x5)) (zi_w (x5 + (-1)))) none)) none) none)
def zf_M_sold_l4 (g3 : (Int → Int)) (g10 : (Int → Int)) : Nat → Int → Int → Int → Option (Int × Int)
  | 0, _, _, _ => none
  | n + 1, x3, x4, x5 => zf_M_sold_l4_b g3 g10 (zf_M_sold_l4 g3 g10 n) x3 x4 x5
def zf_M_sold (x1 : Int) (x2 : Int) (f0 : Int) (g0 : (Int → Int)) (g1 : (Int → Int)) (g2 : (Int → Int)) (g3 : (Int → Int)) (g4 : (Int → Int)) (g5 : (Int → Int)) (g6 : (Int → Int)) (g7 : (Int → Int)) (g8 : (Int → Int)) (g9 : (Int → Int)) (g10 : (Int → Int)) : Option (Int × (Int → Int) × (Int → Int) × (Int → Int) × (Int → Int) × (Int → Int)) := (zf_M_in x1 0 999).bind fun r1 => (if r1 = 0 then (some ((-1), g0, g2, g3, g8, g10)) else ((zf_M_in x2 0 2).bind fun r3 => (if r3 = 0 then (some ((-1), g0, g2, g3, g8, g10)) else ((zf_M_sold_l0 f0 g1 g4 g5 g6 g7 g9 zi_fu 0 g0 g2 g3 g8).bind fun q18 => ((zf_M_sold_l1 x1 zi_fu 0 g10).bind fun q21 => ((zf_M_sold_l2 x1 g1 q18.2.1 q18.2.2.1 zi_fu 0 q21).bind fun q35 => ((zf_M_sold_l4 q18.2.2.1 q35 zi_fu x1 0 23).bind fun q41 => (if x2 = 0 then (cond (zi_ix (zi_w (24000 + x1)) 25000) (some ((q35 (zi_w (24000 + x1))), q18.1, q18.2.1, q18.2.2.1, q18.2.2.2, q35)) none) else (if x2 = 1 then (some (q41.2, q18.1, q18.2.1, q18.2.2.1, q18.2.2.2, q35)) else (some ((zi_w (x1 - q41.1)), q18.1, q18.2.1, q18.2.2.1, q18.2.2.2, q35)))))))))))
theorem zd287_0 : decode zxm287.2.1 0 = .ok (.iload_n 1, 1) := by decide +kernel
theorem zd287_1 : decode zxm287.2.1 1 = .ok (.iconst 0, 1) := by decide +kernel
theorem zd287_2 : decode zxm287.2.1 2 = .ok (.sipush 999, 3) := by decide +kernel
theorem zd287_5 : decode zxm287.2.1 5 = .ok (.invokestatic 150, 3) := by decide +kernel
theorem zd287_8 : decode zxm287.2.1 8 = .ok (.ifCond .eq 12, 3) := by decide +kernel
theorem zd287_11 : decode zxm287.2.1 11 = .ok (.iload_n 2, 1) := by decide +kernel
theorem zd287_12 : decode zxm287.2.1 12 = .ok (.iconst 0, 1) := by decide +kernel
theorem zd287_13 : decode zxm287.2.1 13 = .ok (.iconst 2, 1) := by decide +kernel
theorem zd287_14 : decode zxm287.2.1 14 = .ok (.invokestatic 150, 3) := by decide +kernel
theorem zd287_17 : decode zxm287.2.1 17 = .ok (.ifCond .ne 5, 3) := by decide +kernel
theorem zd287_20 : decode zxm287.2.1 20 = .ok (.iconst (-1), 1) := by decide +kernel
theorem zd287_21 : decode zxm287.2.1 21 = .ok (.ireturn, 1) := by decide +kernel
theorem zd287_22 : decode zxm287.2.1 22 = .ok (.iconst 0, 1) := by decide +kernel
theorem zd287_23 : decode zxm287.2.1 23 = .ok (.istore_n 3, 1) := by decide +kernel
theorem zd287_24 : decode zxm287.2.1 24 = .ok (.iload_n 3, 1) := by decide +kernel
theorem zd287_25 : decode zxm287.2.1 25 = .ok (.bipush 24, 2) := by decide +kernel
theorem zd287_27 : decode zxm287.2.1 27 = .ok (.if_icmp .ge 67, 3) := by decide +kernel
theorem zd287_30 : decode zxm287.2.1 30 = .ok (.aload_n 0, 1) := by decide +kernel
theorem zd287_31 : decode zxm287.2.1 31 = .ok (.iload_n 3, 1) := by decide +kernel
theorem zd287_32 : decode zxm287.2.1 32 = .ok (.invokevirtual 287, 3) := by decide +kernel
theorem zd287_35 : decode zxm287.2.1 35 = .ok (.aload_n 0, 1) := by decide +kernel
theorem zd287_36 : decode zxm287.2.1 36 = .ok (.getfield 104, 3) := by decide +kernel
theorem zd287_39 : decode zxm287.2.1 39 = .ok (.iload_n 3, 1) := by decide +kernel
theorem zd287_40 : decode zxm287.2.1 40 = .ok (.aload_n 0, 1) := by decide +kernel
theorem zd287_41 : decode zxm287.2.1 41 = .ok (.iload_n 3, 1) := by decide +kernel
theorem zd287_42 : decode zxm287.2.1 42 = .ok (.invokevirtual 157, 3) := by decide +kernel
theorem zd287_45 : decode zxm287.2.1 45 = .ok (.ifCond .eq 15, 3) := by decide +kernel
theorem zd287_48 : decode zxm287.2.1 48 = .ok (.aload_n 0, 1) := by decide +kernel
theorem zd287_49 : decode zxm287.2.1 49 = .ok (.bipush 119, 2) := by decide +kernel
theorem zd287_51 : decode zxm287.2.1 51 = .ok (.sipush 999, 3) := by decide +kernel
theorem zd287_54 : decode zxm287.2.1 54 = .ok (.invokevirtual 408, 3) := by decide +kernel
theorem zd287_57 : decode zxm287.2.1 57 = .ok (.goto 4, 3) := by decide +kernel
theorem zd287_60 : decode zxm287.2.1 60 = .ok (.iconst 0, 1) := by decide +kernel
theorem zd287_61 : decode zxm287.2.1 61 = .ok (.iastore, 1) := by decide +kernel
theorem zd287_62 : decode zxm287.2.1 62 = .ok (.aload_n 0, 1) := by decide +kernel
theorem zd287_63 : decode zxm287.2.1 63 = .ok (.getfield 107, 3) := by decide +kernel
theorem zd287_66 : decode zxm287.2.1 66 = .ok (.iload_n 3, 1) := by decide +kernel
theorem zd287_67 : decode zxm287.2.1 67 = .ok (.aload_n 0, 1) := by decide +kernel
theorem zd287_68 : decode zxm287.2.1 68 = .ok (.iload_n 3, 1) := by decide +kernel
theorem zd287_69 : decode zxm287.2.1 69 = .ok (.invokevirtual 157, 3) := by decide +kernel
theorem zd287_72 : decode zxm287.2.1 72 = .ok (.ifCond .eq 14, 3) := by decide +kernel
theorem zd287_75 : decode zxm287.2.1 75 = .ok (.aload_n 0, 1) := by decide +kernel
theorem zd287_76 : decode zxm287.2.1 76 = .ok (.bipush 103, 2) := by decide +kernel
theorem zd287_78 : decode zxm287.2.1 78 = .ok (.bipush 99, 2) := by decide +kernel
theorem zd287_80 : decode zxm287.2.1 80 = .ok (.invokevirtual 408, 3) := by decide +kernel
theorem zd287_83 : decode zxm287.2.1 83 = .ok (.goto 4, 3) := by decide +kernel
theorem zd287_86 : decode zxm287.2.1 86 = .ok (.iconst 0, 1) := by decide +kernel
theorem zd287_87 : decode zxm287.2.1 87 = .ok (.iastore, 1) := by decide +kernel
theorem zd287_88 : decode zxm287.2.1 88 = .ok (.iinc 3 1, 3) := by decide +kernel
theorem zd287_91 : decode zxm287.2.1 91 = .ok (.goto (-67), 3) := by decide +kernel
theorem zd287_94 : decode zxm287.2.1 94 = .ok (.iconst 0, 1) := by decide +kernel
theorem zd287_95 : decode zxm287.2.1 95 = .ok (.istore_n 3, 1) := by decide +kernel
theorem zd287_96 : decode zxm287.2.1 96 = .ok (.iload_n 3, 1) := by decide +kernel
theorem zd287_97 : decode zxm287.2.1 97 = .ok (.iload_n 1, 1) := by decide +kernel
theorem zd287_98 : decode zxm287.2.1 98 = .ok (.if_icmp .gt 16, 3) := by decide +kernel
theorem zd287_101 : decode zxm287.2.1 101 = .ok (.aload_n 0, 1) := by decide +kernel
theorem zd287_102 : decode zxm287.2.1 102 = .ok (.getfield 110, 3) := by decide +kernel
theorem zd287_105 : decode zxm287.2.1 105 = .ok (.iload_n 3, 1) := by decide +kernel
theorem zd287_106 : decode zxm287.2.1 106 = .ok (.iconst 0, 1) := by decide +kernel
theorem zd287_107 : decode zxm287.2.1 107 = .ok (.iastore, 1) := by decide +kernel
theorem zd287_108 : decode zxm287.2.1 108 = .ok (.iinc 3 1, 3) := by decide +kernel
theorem zd287_111 : decode zxm287.2.1 111 = .ok (.goto (-15), 3) := by decide +kernel
theorem zd287_114 : decode zxm287.2.1 114 = .ok (.iconst 0, 1) := by decide +kernel
theorem zd287_115 : decode zxm287.2.1 115 = .ok (.istore_n 3, 1) := by decide +kernel
theorem zd287_116 : decode zxm287.2.1 116 = .ok (.iload_n 3, 1) := by decide +kernel
theorem zd287_117 : decode zxm287.2.1 117 = .ok (.bipush 24, 2) := by decide +kernel
theorem zd287_119 : decode zxm287.2.1 119 = .ok (.if_icmp .ge 110, 3) := by decide +kernel
theorem zd287_122 : decode zxm287.2.1 122 = .ok (.iconst 0, 1) := by decide +kernel
theorem zd287_123 : decode zxm287.2.1 123 = .ok (.istore 4, 2) := by decide +kernel
theorem zd287_125 : decode zxm287.2.1 125 = .ok (.iload 4, 2) := by decide +kernel
theorem zd287_127 : decode zxm287.2.1 127 = .ok (.iload_n 1, 1) := by decide +kernel
theorem zd287_128 : decode zxm287.2.1 128 = .ok (.if_icmp .gt 95, 3) := by decide +kernel
theorem zd287_131 : decode zxm287.2.1 131 = .ok (.aload_n 0, 1) := by decide +kernel
theorem zd287_132 : decode zxm287.2.1 132 = .ok (.getfield 110, 3) := by decide +kernel
theorem zd287_135 : decode zxm287.2.1 135 = .ok (.sipush 1000, 3) := by decide +kernel
theorem zd287_138 : decode zxm287.2.1 138 = .ok (.iload_n 3, 1) := by decide +kernel
theorem zd287_139 : decode zxm287.2.1 139 = .ok (.imul, 1) := by decide +kernel
theorem zd287_140 : decode zxm287.2.1 140 = .ok (.iload 4, 2) := by decide +kernel
theorem zd287_142 : decode zxm287.2.1 142 = .ok (.iadd, 1) := by decide +kernel
theorem zd287_143 : decode zxm287.2.1 143 = .ok (.iaload, 1) := by decide +kernel
theorem zd287_144 : decode zxm287.2.1 144 = .ok (.istore 5, 2) := by decide +kernel
theorem zd287_146 : decode zxm287.2.1 146 = .ok (.aload_n 0, 1) := by decide +kernel
theorem zd287_147 : decode zxm287.2.1 147 = .ok (.getfield 110, 3) := by decide +kernel
theorem zd287_150 : decode zxm287.2.1 150 = .ok (.sipush 1000, 3) := by decide +kernel
theorem zd287_153 : decode zxm287.2.1 153 = .ok (.iload_n 3, 1) := by decide +kernel
theorem zd287_154 : decode zxm287.2.1 154 = .ok (.iconst 1, 1) := by decide +kernel
theorem zd287_155 : decode zxm287.2.1 155 = .ok (.iadd, 1) := by decide +kernel
theorem zd287_156 : decode zxm287.2.1 156 = .ok (.imul, 1) := by decide +kernel
theorem zd287_157 : decode zxm287.2.1 157 = .ok (.iload 4, 2) := by decide +kernel
theorem zd287_159 : decode zxm287.2.1 159 = .ok (.iadd, 1) := by decide +kernel
theorem zd287_160 : decode zxm287.2.1 160 = .ok (.aload_n 0, 1) := by decide +kernel
theorem zd287_161 : decode zxm287.2.1 161 = .ok (.iload_n 3, 1) := by decide +kernel
theorem zd287_162 : decode zxm287.2.1 162 = .ok (.invokevirtual 157, 3) := by decide +kernel
theorem zd287_165 : decode zxm287.2.1 165 = .ok (.ifCond .eq 49, 3) := by decide +kernel
theorem zd287_168 : decode zxm287.2.1 168 = .ok (.aload_n 0, 1) := by decide +kernel
theorem zd287_169 : decode zxm287.2.1 169 = .ok (.getfield 107, 3) := by decide +kernel
theorem zd287_172 : decode zxm287.2.1 172 = .ok (.iload_n 3, 1) := by decide +kernel
theorem zd287_173 : decode zxm287.2.1 173 = .ok (.iaload, 1) := by decide +kernel
theorem zd287_174 : decode zxm287.2.1 174 = .ok (.iload 4, 2) := by decide +kernel
theorem zd287_176 : decode zxm287.2.1 176 = .ok (.if_icmp .gt 38, 3) := by decide +kernel
theorem zd287_179 : decode zxm287.2.1 179 = .ok (.iload 5, 2) := by decide +kernel
theorem zd287_181 : decode zxm287.2.1 181 = .ok (.aload_n 0, 1) := by decide +kernel
theorem zd287_182 : decode zxm287.2.1 182 = .ok (.getfield 104, 3) := by decide +kernel
theorem zd287_185 : decode zxm287.2.1 185 = .ok (.iload_n 3, 1) := by decide +kernel
theorem zd287_186 : decode zxm287.2.1 186 = .ok (.iaload, 1) := by decide +kernel
theorem zd287_187 : decode zxm287.2.1 187 = .ok (.aload_n 0, 1) := by decide +kernel
theorem zd287_188 : decode zxm287.2.1 188 = .ok (.getfield 110, 3) := by decide +kernel
theorem zd287_191 : decode zxm287.2.1 191 = .ok (.sipush 1000, 3) := by decide +kernel
theorem zd287_194 : decode zxm287.2.1 194 = .ok (.iload_n 3, 1) := by decide +kernel
theorem zd287_195 : decode zxm287.2.1 195 = .ok (.imul, 1) := by decide +kernel
theorem zd287_196 : decode zxm287.2.1 196 = .ok (.iload 4, 2) := by decide +kernel
theorem zd287_198 : decode zxm287.2.1 198 = .ok (.iadd, 1) := by decide +kernel
theorem zd287_199 : decode zxm287.2.1 199 = .ok (.aload_n 0, 1) := by decide +kernel
theorem zd287_200 : decode zxm287.2.1 200 = .ok (.getfield 107, 3) := by decide +kernel
theorem zd287_203 : decode zxm287.2.1 203 = .ok (.iload_n 3, 1) := by decide +kernel
theorem zd287_204 : decode zxm287.2.1 204 = .ok (.iaload, 1) := by decide +kernel
theorem zd287_205 : decode zxm287.2.1 205 = .ok (.isub, 1) := by decide +kernel
theorem zd287_206 : decode zxm287.2.1 206 = .ok (.iaload, 1) := by decide +kernel
theorem zd287_207 : decode zxm287.2.1 207 = .ok (.iadd, 1) := by decide +kernel
theorem zd287_208 : decode zxm287.2.1 208 = .ok (.invokestatic 324, 3) := by decide +kernel
theorem zd287_211 : decode zxm287.2.1 211 = .ok (.goto 5, 3) := by decide +kernel
theorem zd287_214 : decode zxm287.2.1 214 = .ok (.iload 5, 2) := by decide +kernel
theorem zd287_216 : decode zxm287.2.1 216 = .ok (.iastore, 1) := by decide +kernel
theorem zd287_217 : decode zxm287.2.1 217 = .ok (.iinc 4 1, 3) := by decide +kernel
theorem zd287_220 : decode zxm287.2.1 220 = .ok (.goto (-95), 3) := by decide +kernel
theorem zd287_223 : decode zxm287.2.1 223 = .ok (.iinc 3 1, 3) := by decide +kernel
theorem zd287_226 : decode zxm287.2.1 226 = .ok (.goto (-110), 3) := by decide +kernel
theorem zd287_229 : decode zxm287.2.1 229 = .ok (.iload_n 1, 1) := by decide +kernel
theorem zd287_230 : decode zxm287.2.1 230 = .ok (.istore_n 3, 1) := by decide +kernel
theorem zd287_231 : decode zxm287.2.1 231 = .ok (.iconst 0, 1) := by decide +kernel
theorem zd287_232 : decode zxm287.2.1 232 = .ok (.istore 4, 2) := by decide +kernel
theorem zd287_234 : decode zxm287.2.1 234 = .ok (.bipush 23, 2) := by decide +kernel
theorem zd287_236 : decode zxm287.2.1 236 = .ok (.istore 5, 2) := by decide +kernel
theorem zd287_238 : decode zxm287.2.1 238 = .ok (.iload 5, 2) := by decide +kernel
theorem zd287_240 : decode zxm287.2.1 240 = .ok (.ifCond .lt 62, 3) := by decide +kernel
theorem zd287_243 : decode zxm287.2.1 243 = .ok (.aload_n 0, 1) := by decide +kernel
theorem zd287_244 : decode zxm287.2.1 244 = .ok (.getfield 110, 3) := by decide +kernel
theorem zd287_247 : decode zxm287.2.1 247 = .ok (.sipush 1000, 3) := by decide +kernel
theorem zd287_250 : decode zxm287.2.1 250 = .ok (.iload 5, 2) := by decide +kernel
theorem zd287_252 : decode zxm287.2.1 252 = .ok (.imul, 1) := by decide +kernel
theorem zd287_253 : decode zxm287.2.1 253 = .ok (.iload_n 3, 1) := by decide +kernel
theorem zd287_254 : decode zxm287.2.1 254 = .ok (.iadd, 1) := by decide +kernel
theorem zd287_255 : decode zxm287.2.1 255 = .ok (.iaload, 1) := by decide +kernel
theorem zd287_256 : decode zxm287.2.1 256 = .ok (.aload_n 0, 1) := by decide +kernel
theorem zd287_257 : decode zxm287.2.1 257 = .ok (.getfield 110, 3) := by decide +kernel
theorem zd287_260 : decode zxm287.2.1 260 = .ok (.sipush 1000, 3) := by decide +kernel
theorem zd287_263 : decode zxm287.2.1 263 = .ok (.iload 5, 2) := by decide +kernel
theorem zd287_265 : decode zxm287.2.1 265 = .ok (.iconst 1, 1) := by decide +kernel
theorem zd287_266 : decode zxm287.2.1 266 = .ok (.iadd, 1) := by decide +kernel
theorem zd287_267 : decode zxm287.2.1 267 = .ok (.imul, 1) := by decide +kernel
theorem zd287_268 : decode zxm287.2.1 268 = .ok (.iload_n 3, 1) := by decide +kernel
theorem zd287_269 : decode zxm287.2.1 269 = .ok (.iadd, 1) := by decide +kernel
theorem zd287_270 : decode zxm287.2.1 270 = .ok (.iaload, 1) := by decide +kernel
theorem zd287_271 : decode zxm287.2.1 271 = .ok (.if_icmp .ne 6, 3) := by decide +kernel
theorem zd287_274 : decode zxm287.2.1 274 = .ok (.goto 22, 3) := by decide +kernel
theorem zd287_277 : decode zxm287.2.1 277 = .ok (.iload 4, 2) := by decide +kernel
theorem zd287_279 : decode zxm287.2.1 279 = .ok (.iconst 1, 1) := by decide +kernel
theorem zd287_280 : decode zxm287.2.1 280 = .ok (.iload 5, 2) := by decide +kernel
theorem zd287_282 : decode zxm287.2.1 282 = .ok (.ishl, 1) := by decide +kernel
theorem zd287_283 : decode zxm287.2.1 283 = .ok (.ior, 1) := by decide +kernel
theorem zd287_284 : decode zxm287.2.1 284 = .ok (.istore 4, 2) := by decide +kernel
theorem zd287_286 : decode zxm287.2.1 286 = .ok (.iload_n 3, 1) := by decide +kernel
theorem zd287_287 : decode zxm287.2.1 287 = .ok (.aload_n 0, 1) := by decide +kernel
theorem zd287_288 : decode zxm287.2.1 288 = .ok (.getfield 107, 3) := by decide +kernel
theorem zd287_291 : decode zxm287.2.1 291 = .ok (.iload 5, 2) := by decide +kernel
theorem zd287_293 : decode zxm287.2.1 293 = .ok (.iaload, 1) := by decide +kernel
theorem zd287_294 : decode zxm287.2.1 294 = .ok (.isub, 1) := by decide +kernel
theorem zd287_295 : decode zxm287.2.1 295 = .ok (.istore_n 3, 1) := by decide +kernel
theorem zd287_296 : decode zxm287.2.1 296 = .ok (.iinc 5 (-1), 3) := by decide +kernel
theorem zd287_299 : decode zxm287.2.1 299 = .ok (.goto (-61), 3) := by decide +kernel
theorem zd287_302 : decode zxm287.2.1 302 = .ok (.iload_n 2, 1) := by decide +kernel
theorem zd287_303 : decode zxm287.2.1 303 = .ok (.ifCond .ne 16, 3) := by decide +kernel
theorem zd287_306 : decode zxm287.2.1 306 = .ok (.aload_n 0, 1) := by decide +kernel
theorem zd287_307 : decode zxm287.2.1 307 = .ok (.getfield 110, 3) := by decide +kernel
theorem zd287_310 : decode zxm287.2.1 310 = .ok (.sipush 24000, 3) := by decide +kernel
theorem zd287_313 : decode zxm287.2.1 313 = .ok (.iload_n 1, 1) := by decide +kernel
theorem zd287_314 : decode zxm287.2.1 314 = .ok (.iadd, 1) := by decide +kernel
theorem zd287_315 : decode zxm287.2.1 315 = .ok (.iaload, 1) := by decide +kernel
theorem zd287_316 : decode zxm287.2.1 316 = .ok (.goto 16, 3) := by decide +kernel
theorem zd287_319 : decode zxm287.2.1 319 = .ok (.iload_n 2, 1) := by decide +kernel
theorem zd287_320 : decode zxm287.2.1 320 = .ok (.iconst 1, 1) := by decide +kernel
theorem zd287_321 : decode zxm287.2.1 321 = .ok (.if_icmp .ne 8, 3) := by decide +kernel
theorem zd287_324 : decode zxm287.2.1 324 = .ok (.iload 4, 2) := by decide +kernel
theorem zd287_326 : decode zxm287.2.1 326 = .ok (.goto 6, 3) := by decide +kernel
theorem zd287_329 : decode zxm287.2.1 329 = .ok (.iload_n 1, 1) := by decide +kernel
theorem zd287_330 : decode zxm287.2.1 330 = .ok (.iload_n 3, 1) := by decide +kernel
theorem zd287_331 : decode zxm287.2.1 331 = .ok (.isub, 1) := by decide +kernel
theorem zd287_332 : decode zxm287.2.1 332 = .ok (.ireturn, 1) := by decide +kernel
theorem zt_M_sold {x1 : Int} {x2 : Int} {f0 : Int} {g0 : (Int → Int)} {g1 : (Int → Int)} {g2 : (Int → Int)} {g3 : (Int → Int)} {g4 : (Int → Int)} {g5 : (Int → Int)} {g6 : (Int → Int)} {g7 : (Int → Int)} {g8 : (Int → Int)} {g9 : (Int → Int)} {g10 : (Int → Int)} {o : Int × (Int → Int) × (Int → Int) × (Int → Int) × (Int → Int) × (Int → Int)} (h : zf_M_sold x1 x2 f0 g0 g1 g2 g3 g4 g5 g6 g7 g8 g9 g10 = some o) : zv_Fn z_TB z_cl z_KX zy_M_sold zxm287 (3, 180) [.inr 0, .inl x1, .inl x2] [.inl f0] [g0, g1, g2, g3, g4, g5, g6, g7, g8, g9, g10] (some o.1) [.inl f0] [o.2.1, g1, o.2.2.1, o.2.2.2.1, g4, g5, g6, g7, o.2.2.2.2.1, g9, o.2.2.2.2.2] := zv_meth (K := (z_KF13, z_KC13, z_KL13, z_KT13, [], [], [], none)) (FT := z_FT) (MT := z_MT) (n := 3) zxp287 (z_ks13 _ (fun _ h => List.mem_cons_of_mem _ h) _ _ _ _ (fun j r h _ => by cases h)) (fun _ _ => zs_KX_p) zyw_M_sold (fun va F G h => by obtain ⟨rfl, _⟩ := h; rfl) (fun va F G h => by obtain ⟨rfl, _⟩ := h; rfl) rfl fun good va F G hB hret hvret hP => by
  obtain ⟨rfl, rfl, rfl⟩ := hP
  have l0 : ∀ (n : Nat) (x1 : Int) (x2 : Int) (x3 : Int) (g0 : (Int → Int)) (g2 : (Int → Int)) (g3 : (Int → Int)) (g8 : (Int → Int)) (g10 : (Int → Int)) (q : (Int → Int) × (Int → Int) × (Int → Int) × (Int → Int)), zf_M_sold_l0 f0 g1 g4 g5 g6 g7 g9 n x3 g0 g2 g3 g8 = some q → (good 94 [.inr 0, .inl x1, .inl x2, .inr 1000, .inr 1000, .inr 1000] [] [.inl f0] [q.1, g1, q.2.1, q.2.2.1, g4, g5, g6, g7, q.2.2.2, g9, g10]) → good 24 [.inr 0, .inl x1, .inl x2, .inl x3, .inr 1000, .inr 1000] [] [.inl f0] [g0, g1, g2, g3, g4, g5, g6, g7, g8, g9, g10] := by
    intro n
    induction n with
    | zero => intro x1 x2 x3 g0 g2 g3 g8 g10 q h; exact absurd (show none = some q from h) (fun h => by cases h)
    | succ n ih =>
      intro x1 x2 x3 g0 g2 g3 g8 g10 q h hK
      replace h : zf_M_sold_l0_b f0 g1 g4 g5 g6 g7 g9 (zf_M_sold_l0 f0 g1 g4 g5 g6 g7 g9 n) x3 g0 g2 g3 g8 = some q := h
      unfold zf_M_sold_l0_b at h
      refine zv_ild hB zd287_24 rfl rfl ?_
      refine zv_con hB zd287_25 rfl ?_
      refine zv_cge hB zd287_27 rfl (fun hc5 => ?_) (fun hc5 => ?_)
      · rw [if_neg (Int.not_lt.mpr hc5)] at h
        have hq := Option.some.inj h
        subst hq
        refine zv_wk hB (L' := [.inr 0, .inl x1, .inl x2, .inr 1000, .inr 1000, .inr 1000]) (F' := [.inl f0]) ⟨fun _ => rfl, fun _ => rfl, fun _ => rfl, fun (h : zv_is (.inr 1000)) => (Nat.lt_irrefl 1000 h).elim, fun (h : zv_is (.inr 1000)) => (Nat.lt_irrefl 1000 h).elim, fun (h : zv_is (.inr 1000)) => (Nat.lt_irrefl 1000 h).elim, trivial⟩ ⟨fun _ => rfl, trivial⟩ ?_
        exact hK
      · rw [if_pos hc5] at h
        refine zv_ald hB zd287_30 rfl rfl rfl ?_
        refine zv_ild hB zd287_31 rfl rfl ?_
        obtain ⟨r6, hr6, h⟩ := zi_bind h
        refine zv_cv hB (zv_emq (va2 := [.inr 0, .inl x3]) (F := [.inl f0]) (F' := [.inl f0]) (G := [g0, g1, g2, g3, g4, g5, g6, g7, g8, g9, g10]) (G' := [r6, g1, g2, g3, g4, g5, g6, g7, g8, g9, g10]) (ρ := [0, 1, 2]) (φ := []) (ψ := [0, 1]) [none] [some 0, some 1, none, none, none, none, none, none, none, none, none] zyw_M_feelsStar zyw_M_sold zye_M_sold (by decide +kernel) (zt_M_feelsStar hr6) trivial ⟨rfl, rfl, trivial⟩ rfl rfl rfl rfl rfl rfl rfl) zd287_32 zxt245 rfl (by decide) (by decide) rfl ?_
        refine zv_ald hB zd287_35 rfl rfl rfl ?_
        refine zv_getr hB zd287_36 rfl ?_
        refine zv_ild hB zd287_39 rfl rfl ?_
        refine zv_ald hB zd287_40 rfl rfl rfl ?_
        refine zv_ild hB zd287_41 rfl rfl ?_
        obtain ⟨r7, hr7, h⟩ := zi_bind h
        refine zv_cv hB (zv_emq (va2 := [.inr 0, .inl x3]) (F := [.inl f0]) (F' := [.inl f0]) (G := [r6, g1, g2, g3, g4, g5, g6, g7, g8, g9, g10]) (G' := [r6, g1, g2, g3, g4, g5, g6, g7, g8, g9, g10]) (ρ := [0, 2]) (φ := []) (ψ := [1]) [none] [none, some 0, none, none, none, none, none, none, none, none, none] zyw_M_isTold zyw_M_sold zye_M_sold (by decide +kernel) (zt_M_isTold hr7) trivial ⟨rfl, trivial⟩ rfl rfl rfl rfl rfl rfl rfl) zd287_42 zxt203 rfl (by decide) (by decide) rfl ?_
        refine zv_zeq hB zd287_45 rfl (fun hc8 => ?_) (fun hc8 => ?_)
        · rw [if_pos hc8] at h
          refine zv_con hB zd287_60 rfl ?_
          obtain ⟨c9, h⟩ := zi_if h
          refine zv_iast hB zd287_61 rfl rfl (zi_ix_ok c9).1 (zi_ix_ok c9).2 ?_
          refine zv_ald hB zd287_62 rfl rfl rfl ?_
          refine zv_getr hB zd287_63 rfl ?_
          refine zv_ild hB zd287_66 rfl rfl ?_
          refine zv_ald hB zd287_67 rfl rfl rfl ?_
          refine zv_ild hB zd287_68 rfl rfl ?_
          obtain ⟨r10, hr10, h⟩ := zi_bind h
          refine zv_cv hB (zv_emq (va2 := [.inr 0, .inl x3]) (F := [.inl f0]) (F' := [.inl f0]) (G := [r6, g1, (zv_up g2 x3 0), g3, g4, g5, g6, g7, g8, g9, g10]) (G' := [r6, g1, (zv_up g2 x3 0), g3, g4, g5, g6, g7, g8, g9, g10]) (ρ := [0, 2]) (φ := []) (ψ := [1]) [none] [none, some 0, none, none, none, none, none, none, none, none, none] zyw_M_isTold zyw_M_sold zye_M_sold (by decide +kernel) (zt_M_isTold hr10) trivial ⟨rfl, trivial⟩ rfl rfl rfl rfl rfl rfl rfl) zd287_69 zxt203 rfl (by decide) (by decide) rfl ?_
          refine zv_zeq hB zd287_72 rfl (fun hc11 => ?_) (fun hc11 => ?_)
          · rw [if_pos hc11] at h
            refine zv_con hB zd287_86 rfl ?_
            refine zv_iast hB zd287_87 rfl rfl (zi_ix_ok c9).1 (zi_ix_ok c9).2 ?_
            refine zv_iincw hB zd287_88 rfl rfl ?_
            refine zv_goto hB zd287_91 rfl ?_
            exact ih _ _ _ _ _ _ _ _ q h hK
          · rw [if_neg hc11] at h
            refine zv_ald hB zd287_75 rfl rfl rfl ?_
            refine zv_con hB zd287_76 rfl ?_
            refine zv_con hB zd287_78 rfl ?_
            obtain ⟨r12, hr12, h⟩ := zi_bind h
            refine zv_cv hB (zv_emq (va2 := [.inr 0, .inl 103, .inl 99]) (F := [.inl f0]) (F' := [.inl f0]) (G := [r6, g1, (zv_up g2 x3 0), g3, g4, g5, g6, g7, g8, g9, g10]) (G' := [r6, g1, (zv_up g2 x3 0), g3, g4, g5, g6, g7, r12.2, g9, g10]) (ρ := [0, 5, 6, 7, 8, 9, 1, 10]) (φ := [0]) (ψ := [4, 5, 6, 7, 8, 0, 9]) [some 0] [some 5, none, none, none, some 0, some 1, some 2, some 3, some 4, some 6, none] zyw_M_byLaw zyw_M_sold zye_M_sold (by decide +kernel) (zt_M_byLaw hr12) ⟨⟨_, rfl, fun _ => rfl⟩, trivial⟩ ⟨rfl, rfl, rfl, rfl, rfl, rfl, rfl, trivial⟩ rfl rfl rfl rfl rfl rfl rfl) zd287_80 zxt288 rfl (by decide) (by decide) rfl ?_
            refine zv_goto hB zd287_83 rfl ?_
            refine zv_iast hB zd287_87 rfl rfl (zi_ix_ok c9).1 (zi_ix_ok c9).2 ?_
            refine zv_iincw hB zd287_88 rfl rfl ?_
            refine zv_goto hB zd287_91 rfl ?_
            exact ih _ _ _ _ _ _ _ _ q h hK
        · rw [if_neg hc8] at h
          refine zv_ald hB zd287_48 rfl rfl rfl ?_
          refine zv_con hB zd287_49 rfl ?_
          refine zv_con hB zd287_51 rfl ?_
          obtain ⟨r13, hr13, h⟩ := zi_bind h
          refine zv_cv hB (zv_emq (va2 := [.inr 0, .inl 119, .inl 999]) (F := [.inl f0]) (F' := [.inl f0]) (G := [r6, g1, g2, g3, g4, g5, g6, g7, g8, g9, g10]) (G' := [r6, g1, g2, g3, g4, g5, g6, g7, r13.2, g9, g10]) (ρ := [0, 5, 6, 7, 8, 9, 1, 10]) (φ := [0]) (ψ := [4, 5, 6, 7, 8, 0, 9]) [some 0] [some 5, none, none, none, some 0, some 1, some 2, some 3, some 4, some 6, none] zyw_M_byLaw zyw_M_sold zye_M_sold (by decide +kernel) (zt_M_byLaw hr13) ⟨⟨_, rfl, fun _ => rfl⟩, trivial⟩ ⟨rfl, rfl, rfl, rfl, rfl, rfl, rfl, trivial⟩ rfl rfl rfl rfl rfl rfl rfl) zd287_54 zxt288 rfl (by decide) (by decide) rfl ?_
          refine zv_goto hB zd287_57 rfl ?_
          obtain ⟨c14, h⟩ := zi_if h
          refine zv_iast hB zd287_61 rfl rfl (zi_ix_ok c14).1 (zi_ix_ok c14).2 ?_
          refine zv_ald hB zd287_62 rfl rfl rfl ?_
          refine zv_getr hB zd287_63 rfl ?_
          refine zv_ild hB zd287_66 rfl rfl ?_
          refine zv_ald hB zd287_67 rfl rfl rfl ?_
          refine zv_ild hB zd287_68 rfl rfl ?_
          obtain ⟨r15, hr15, h⟩ := zi_bind h
          refine zv_cv hB (zv_emq (va2 := [.inr 0, .inl x3]) (F := [.inl f0]) (F' := [.inl f0]) (G := [r6, g1, (zv_up g2 x3 r13.1), g3, g4, g5, g6, g7, r13.2, g9, g10]) (G' := [r6, g1, (zv_up g2 x3 r13.1), g3, g4, g5, g6, g7, r13.2, g9, g10]) (ρ := [0, 2]) (φ := []) (ψ := [1]) [none] [none, some 0, none, none, none, none, none, none, none, none, none] zyw_M_isTold zyw_M_sold zye_M_sold (by decide +kernel) (zt_M_isTold hr15) trivial ⟨rfl, trivial⟩ rfl rfl rfl rfl rfl rfl rfl) zd287_69 zxt203 rfl (by decide) (by decide) rfl ?_
          refine zv_zeq hB zd287_72 rfl (fun hc16 => ?_) (fun hc16 => ?_)
          · rw [if_pos hc16] at h
            refine zv_con hB zd287_86 rfl ?_
            refine zv_iast hB zd287_87 rfl rfl (zi_ix_ok c14).1 (zi_ix_ok c14).2 ?_
            refine zv_iincw hB zd287_88 rfl rfl ?_
            refine zv_goto hB zd287_91 rfl ?_
            exact ih _ _ _ _ _ _ _ _ q h hK
          · rw [if_neg hc16] at h
            refine zv_ald hB zd287_75 rfl rfl rfl ?_
            refine zv_con hB zd287_76 rfl ?_
            refine zv_con hB zd287_78 rfl ?_
            obtain ⟨r17, hr17, h⟩ := zi_bind h
            refine zv_cv hB (zv_emq (va2 := [.inr 0, .inl 103, .inl 99]) (F := [.inl f0]) (F' := [.inl f0]) (G := [r6, g1, (zv_up g2 x3 r13.1), g3, g4, g5, g6, g7, r13.2, g9, g10]) (G' := [r6, g1, (zv_up g2 x3 r13.1), g3, g4, g5, g6, g7, r17.2, g9, g10]) (ρ := [0, 5, 6, 7, 8, 9, 1, 10]) (φ := [0]) (ψ := [4, 5, 6, 7, 8, 0, 9]) [some 0] [some 5, none, none, none, some 0, some 1, some 2, some 3, some 4, some 6, none] zyw_M_byLaw zyw_M_sold zye_M_sold (by decide +kernel) (zt_M_byLaw hr17) ⟨⟨_, rfl, fun _ => rfl⟩, trivial⟩ ⟨rfl, rfl, rfl, rfl, rfl, rfl, rfl, trivial⟩ rfl rfl rfl rfl rfl rfl rfl) zd287_80 zxt288 rfl (by decide) (by decide) rfl ?_
            refine zv_goto hB zd287_83 rfl ?_
            refine zv_iast hB zd287_87 rfl rfl (zi_ix_ok c14).1 (zi_ix_ok c14).2 ?_
            refine zv_iincw hB zd287_88 rfl rfl ?_
            refine zv_goto hB zd287_91 rfl ?_
            exact ih _ _ _ _ _ _ _ _ q h hK
  have l1 : ∀ (n : Nat) (x1 : Int) (x2 : Int) (x3 : Int) (g0 : (Int → Int)) (g2 : (Int → Int)) (g3 : (Int → Int)) (g8 : (Int → Int)) (g10 : (Int → Int)) (q : (Int → Int)), zf_M_sold_l1 x1 n x3 g10 = some q → (good 114 [.inr 0, .inl x1, .inl x2, .inr 1000, .inr 1000, .inr 1000] [] [.inl f0] [g0, g1, g2, g3, g4, g5, g6, g7, g8, g9, q]) → good 96 [.inr 0, .inl x1, .inl x2, .inl x3, .inr 1000, .inr 1000] [] [.inl f0] [g0, g1, g2, g3, g4, g5, g6, g7, g8, g9, g10] := by
    intro n
    induction n with
    | zero => intro x1 x2 x3 g0 g2 g3 g8 g10 q h; exact absurd (show none = some q from h) (fun h => by cases h)
    | succ n ih =>
      intro x1 x2 x3 g0 g2 g3 g8 g10 q h hK
      replace h : zf_M_sold_l1_b x1 (zf_M_sold_l1 x1 n) x3 g10 = some q := h
      unfold zf_M_sold_l1_b at h
      refine zv_ild hB zd287_96 rfl rfl ?_
      refine zv_ild hB zd287_97 rfl rfl ?_
      refine zv_cgt hB zd287_98 rfl (fun hc19 => ?_) (fun hc19 => ?_)
      · rw [if_pos hc19] at h
        have hq := Option.some.inj h
        subst hq
        refine zv_wk hB (L' := [.inr 0, .inl x1, .inl x2, .inr 1000, .inr 1000, .inr 1000]) (F' := [.inl f0]) ⟨fun _ => rfl, fun _ => rfl, fun _ => rfl, fun (h : zv_is (.inr 1000)) => (Nat.lt_irrefl 1000 h).elim, fun (h : zv_is (.inr 1000)) => (Nat.lt_irrefl 1000 h).elim, fun (h : zv_is (.inr 1000)) => (Nat.lt_irrefl 1000 h).elim, trivial⟩ ⟨fun _ => rfl, trivial⟩ ?_
        exact hK
      · rw [if_neg (Int.not_lt.mpr hc19)] at h
        refine zv_ald hB zd287_101 rfl rfl rfl ?_
        refine zv_getr hB zd287_102 rfl ?_
        refine zv_ild hB zd287_105 rfl rfl ?_
        refine zv_con hB zd287_106 rfl ?_
        obtain ⟨c20, h⟩ := zi_if h
        refine zv_iast hB zd287_107 rfl rfl (zi_ix_ok c20).1 (zi_ix_ok c20).2 ?_
        refine zv_iincw hB zd287_108 rfl rfl ?_
        refine zv_goto hB zd287_111 rfl ?_
        exact ih _ _ _ _ _ _ _ _ q h hK
  have l3 : ∀ (n : Nat) (x1 : Int) (x2 : Int) (x3 : Int) (x4 : Int) (g0 : (Int → Int)) (g2 : (Int → Int)) (g3 : (Int → Int)) (g8 : (Int → Int)) (g10 : (Int → Int)) (q : (Int → Int)), zf_M_sold_l3 x1 x3 g1 g2 g3 n x4 g10 = some q → (good 223 [.inr 0, .inl x1, .inl x2, .inl x3, .inr 1000, .inr 1000] [] [.inl f0] [g0, g1, g2, g3, g4, g5, g6, g7, g8, g9, q]) → good 125 [.inr 0, .inl x1, .inl x2, .inl x3, .inl x4, .inr 1000] [] [.inl f0] [g0, g1, g2, g3, g4, g5, g6, g7, g8, g9, g10] := by
    intro n
    induction n with
    | zero => intro x1 x2 x3 x4 g0 g2 g3 g8 g10 q h; exact absurd (show none = some q from h) (fun h => by cases h)
    | succ n ih =>
      intro x1 x2 x3 x4 g0 g2 g3 g8 g10 q h hK
      replace h : zf_M_sold_l3_b x1 x3 g1 g2 g3 (zf_M_sold_l3 x1 x3 g1 g2 g3 n) x4 g10 = some q := h
      unfold zf_M_sold_l3_b at h
      refine zv_ild hB zd287_125 rfl rfl ?_
      refine zv_ild hB zd287_127 rfl rfl ?_
      refine zv_cgt hB zd287_128 rfl (fun hc23 => ?_) (fun hc23 => ?_)
      · rw [if_pos hc23] at h
        have hq := Option.some.inj h
        subst hq
        refine zv_wk hB (L' := [.inr 0, .inl x1, .inl x2, .inl x3, .inr 1000, .inr 1000]) (F' := [.inl f0]) ⟨fun _ => rfl, fun _ => rfl, fun _ => rfl, fun _ => rfl, fun (h : zv_is (.inr 1000)) => (Nat.lt_irrefl 1000 h).elim, fun (h : zv_is (.inr 1000)) => (Nat.lt_irrefl 1000 h).elim, trivial⟩ ⟨fun _ => rfl, trivial⟩ ?_
        exact hK
      · rw [if_neg (Int.not_lt.mpr hc23)] at h
        refine zv_ald hB zd287_131 rfl rfl rfl ?_
        refine zv_getr hB zd287_132 rfl ?_
        refine zv_con hB zd287_135 rfl ?_
        refine zv_ild hB zd287_138 rfl rfl ?_
        refine zv_mulw hB zd287_139 ?_
        refine zv_ild hB zd287_140 rfl rfl ?_
        refine zv_addw hB zd287_142 ?_
        obtain ⟨c24, h⟩ := zi_if h
        refine zv_iald hB zd287_143 rfl rfl (zi_ix_ok c24).1 (zi_ix_ok c24).2 (fun _ _ => ?_)
        refine zv_ist hB zd287_144 rfl rfl rfl ?_
        refine zv_ald hB zd287_146 rfl rfl rfl ?_
        refine zv_getr hB zd287_147 rfl ?_
        refine zv_con hB zd287_150 rfl ?_
        refine zv_ild hB zd287_153 rfl rfl ?_
        refine zv_con hB zd287_154 rfl ?_
        refine zv_addw hB zd287_155 ?_
        refine zv_mulw hB zd287_156 ?_
        refine zv_ild hB zd287_157 rfl rfl ?_
        refine zv_addw hB zd287_159 ?_
        refine zv_ald hB zd287_160 rfl rfl rfl ?_
        refine zv_ild hB zd287_161 rfl rfl ?_
        obtain ⟨r25, hr25, h⟩ := zi_bind h
        refine zv_cv hB (zv_emq (va2 := [.inr 0, .inl x3]) (F := [.inl f0]) (F' := [.inl f0]) (G := [g0, g1, g2, g3, g4, g5, g6, g7, g8, g9, g10]) (G' := [g0, g1, g2, g3, g4, g5, g6, g7, g8, g9, g10]) (ρ := [0, 2]) (φ := []) (ψ := [1]) [none] [none, some 0, none, none, none, none, none, none, none, none, none] zyw_M_isTold zyw_M_sold zye_M_sold (by decide +kernel) (zt_M_isTold hr25) trivial ⟨rfl, trivial⟩ rfl rfl rfl rfl rfl rfl rfl) zd287_162 zxt203 rfl (by decide) (by decide) rfl ?_
        refine zv_zeq hB zd287_165 rfl (fun hc26 => ?_) (fun hc26 => ?_)
        · rw [if_pos hc26] at h
          refine zv_ild hB zd287_214 rfl rfl ?_
          obtain ⟨c27, h⟩ := zi_if h
          refine zv_iast hB zd287_216 rfl rfl (zi_ix_ok c27).1 (zi_ix_ok c27).2 ?_
          refine zv_iincw hB zd287_217 rfl rfl ?_
          refine zv_goto hB zd287_220 rfl ?_
          refine zv_wk hB (L' := [.inr 0, .inl x1, .inl x2, .inl x3, .inl (zi_w (x4 + 1)), .inr 1000]) (F' := [.inl f0]) ⟨fun _ => rfl, fun _ => rfl, fun _ => rfl, fun _ => rfl, fun _ => rfl, fun (h : zv_is (.inr 1000)) => (Nat.lt_irrefl 1000 h).elim, trivial⟩ ⟨fun _ => rfl, trivial⟩ ?_
          exact ih _ _ _ _ _ _ _ _ _ q h hK
        · rw [if_neg hc26] at h
          refine zv_ald hB zd287_168 rfl rfl rfl ?_
          refine zv_getr hB zd287_169 rfl ?_
          refine zv_ild hB zd287_172 rfl rfl ?_
          obtain ⟨c28, h⟩ := zi_if h
          refine zv_iald hB zd287_173 rfl rfl (zi_ix_ok c28).1 (zi_ix_ok c28).2 (fun _ _ => ?_)
          refine zv_ild hB zd287_174 rfl rfl ?_
          refine zv_cgt hB zd287_176 rfl (fun hc29 => ?_) (fun hc29 => ?_)
          · rw [if_pos hc29] at h
            refine zv_ild hB zd287_214 rfl rfl ?_
            obtain ⟨c30, h⟩ := zi_if h
            refine zv_iast hB zd287_216 rfl rfl (zi_ix_ok c30).1 (zi_ix_ok c30).2 ?_
            refine zv_iincw hB zd287_217 rfl rfl ?_
            refine zv_goto hB zd287_220 rfl ?_
            refine zv_wk hB (L' := [.inr 0, .inl x1, .inl x2, .inl x3, .inl (zi_w (x4 + 1)), .inr 1000]) (F' := [.inl f0]) ⟨fun _ => rfl, fun _ => rfl, fun _ => rfl, fun _ => rfl, fun _ => rfl, fun (h : zv_is (.inr 1000)) => (Nat.lt_irrefl 1000 h).elim, trivial⟩ ⟨fun _ => rfl, trivial⟩ ?_
            exact ih _ _ _ _ _ _ _ _ _ q h hK
          · rw [if_neg (Int.not_lt.mpr hc29)] at h
            refine zv_ild hB zd287_179 rfl rfl ?_
            refine zv_ald hB zd287_181 rfl rfl rfl ?_
            refine zv_getr hB zd287_182 rfl ?_
            refine zv_ild hB zd287_185 rfl rfl ?_
            refine zv_iald hB zd287_186 rfl rfl (zi_ix_ok c28).1 (zi_ix_ok c28).2 (fun _ _ => ?_)
            refine zv_ald hB zd287_187 rfl rfl rfl ?_
            refine zv_getr hB zd287_188 rfl ?_
            refine zv_con hB zd287_191 rfl ?_
            refine zv_ild hB zd287_194 rfl rfl ?_
            refine zv_mulw hB zd287_195 ?_
            refine zv_ild hB zd287_196 rfl rfl ?_
            refine zv_addw hB zd287_198 ?_
            refine zv_ald hB zd287_199 rfl rfl rfl ?_
            refine zv_getr hB zd287_200 rfl ?_
            refine zv_ild hB zd287_203 rfl rfl ?_
            refine zv_iald hB zd287_204 rfl rfl (zi_ix_ok c28).1 (zi_ix_ok c28).2 (fun _ _ => ?_)
            refine zv_subw hB zd287_205 ?_
            obtain ⟨c31, h⟩ := zi_if h
            refine zv_iald hB zd287_206 rfl rfl (zi_ix_ok c31).1 (zi_ix_ok c31).2 (fun _ _ => ?_)
            refine zv_addw hB zd287_207 ?_
            obtain ⟨r32, hr32, h⟩ := zi_bind h
            refine zv_cs hB (zv_emq (va2 := [.inl (g10 (zi_w ((zi_w (1000 * x3)) + x4))), .inl (zi_w ((g2 x3) + (g10 (zi_w ((zi_w ((zi_w (1000 * x3)) + x4)) - (g3 x3))))))]) (F := [.inl f0]) (F' := [.inl f0]) (G := [g0, g1, g2, g3, g4, g5, g6, g7, g8, g9, g10]) (G' := [g0, g1, g2, g3, g4, g5, g6, g7, g8, g9, g10]) (ρ := []) (φ := []) (ψ := []) [none] [none, none, none, none, none, none, none, none, none, none, none] zyw_M_max zyw_M_sold zye_M_sold (by decide +kernel) (zt_M_max hr32) trivial trivial rfl rfl rfl rfl rfl rfl rfl) zd287_208 zxt258 rfl (by decide) (by decide) rfl ?_
            refine zv_goto hB zd287_211 rfl ?_
            obtain ⟨c33, h⟩ := zi_if h
            refine zv_iast hB zd287_216 rfl rfl (zi_ix_ok c33).1 (zi_ix_ok c33).2 ?_
            refine zv_iincw hB zd287_217 rfl rfl ?_
            refine zv_goto hB zd287_220 rfl ?_
            refine zv_wk hB (L' := [.inr 0, .inl x1, .inl x2, .inl x3, .inl (zi_w (x4 + 1)), .inr 1000]) (F' := [.inl f0]) ⟨fun _ => rfl, fun _ => rfl, fun _ => rfl, fun _ => rfl, fun _ => rfl, fun (h : zv_is (.inr 1000)) => (Nat.lt_irrefl 1000 h).elim, trivial⟩ ⟨fun _ => rfl, trivial⟩ ?_
            exact ih _ _ _ _ _ _ _ _ _ q h hK
  have l2 : ∀ (n : Nat) (x1 : Int) (x2 : Int) (x3 : Int) (g0 : (Int → Int)) (g2 : (Int → Int)) (g3 : (Int → Int)) (g8 : (Int → Int)) (g10 : (Int → Int)) (q : (Int → Int)), zf_M_sold_l2 x1 g1 g2 g3 n x3 g10 = some q → (good 229 [.inr 0, .inl x1, .inl x2, .inr 1000, .inr 1000, .inr 1000] [] [.inl f0] [g0, g1, g2, g3, g4, g5, g6, g7, g8, g9, q]) → good 116 [.inr 0, .inl x1, .inl x2, .inl x3, .inr 1000, .inr 1000] [] [.inl f0] [g0, g1, g2, g3, g4, g5, g6, g7, g8, g9, g10] := by
    intro n
    induction n with
    | zero => intro x1 x2 x3 g0 g2 g3 g8 g10 q h; exact absurd (show none = some q from h) (fun h => by cases h)
    | succ n ih =>
      intro x1 x2 x3 g0 g2 g3 g8 g10 q h hK
      replace h : zf_M_sold_l2_b x1 g1 g2 g3 (zf_M_sold_l2 x1 g1 g2 g3 n) x3 g10 = some q := h
      unfold zf_M_sold_l2_b at h
      refine zv_ild hB zd287_116 rfl rfl ?_
      refine zv_con hB zd287_117 rfl ?_
      refine zv_cge hB zd287_119 rfl (fun hc22 => ?_) (fun hc22 => ?_)
      · rw [if_neg (Int.not_lt.mpr hc22)] at h
        have hq := Option.some.inj h
        subst hq
        refine zv_wk hB (L' := [.inr 0, .inl x1, .inl x2, .inr 1000, .inr 1000, .inr 1000]) (F' := [.inl f0]) ⟨fun _ => rfl, fun _ => rfl, fun _ => rfl, fun (h : zv_is (.inr 1000)) => (Nat.lt_irrefl 1000 h).elim, fun (h : zv_is (.inr 1000)) => (Nat.lt_irrefl 1000 h).elim, fun (h : zv_is (.inr 1000)) => (Nat.lt_irrefl 1000 h).elim, trivial⟩ ⟨fun _ => rfl, trivial⟩ ?_
        exact hK
      · rw [if_pos hc22] at h
        refine zv_con hB zd287_122 rfl ?_
        refine zv_ist hB zd287_123 rfl rfl rfl ?_
        obtain ⟨q34, hq34, h⟩ := zi_bind h
        refine l3 _ _ _ _ _ _ _ _ _ _ q34 hq34 ?_
        show good 223 [.inr 0, .inl x1, .inl x2, .inl x3, .inr 1000, .inr 1000] [] [.inl f0] [g0, g1, g2, g3, g4, g5, g6, g7, g8, g9, q34]
        refine zv_iincw hB zd287_223 rfl rfl ?_
        refine zv_goto hB zd287_226 rfl ?_
        exact ih _ _ _ _ _ _ _ _ q h hK
  have l4 : ∀ (n : Nat) (x1 : Int) (x2 : Int) (x3 : Int) (x4 : Int) (x5 : Int) (g0 : (Int → Int)) (g2 : (Int → Int)) (g3 : (Int → Int)) (g8 : (Int → Int)) (g10 : (Int → Int)) (q : Int × Int), zf_M_sold_l4 g3 g10 n x3 x4 x5 = some q → (good 302 [.inr 0, .inl x1, .inl x2, .inl q.1, .inl q.2, .inr 1000] [] [.inl f0] [g0, g1, g2, g3, g4, g5, g6, g7, g8, g9, g10]) → good 238 [.inr 0, .inl x1, .inl x2, .inl x3, .inl x4, .inl x5] [] [.inl f0] [g0, g1, g2, g3, g4, g5, g6, g7, g8, g9, g10] := by
    intro n
    induction n with
    | zero => intro x1 x2 x3 x4 x5 g0 g2 g3 g8 g10 q h; exact absurd (show none = some q from h) (fun h => by cases h)
    | succ n ih =>
      intro x1 x2 x3 x4 x5 g0 g2 g3 g8 g10 q h hK
      replace h : zf_M_sold_l4_b g3 g10 (zf_M_sold_l4 g3 g10 n) x3 x4 x5 = some q := h
      unfold zf_M_sold_l4_b at h
      refine zv_ild hB zd287_238 rfl rfl ?_
      refine zv_zlt hB zd287_240 rfl (fun hc36 => ?_) (fun hc36 => ?_)
      · rw [if_pos hc36] at h
        have hq := Option.some.inj h
        subst hq
        refine zv_wk hB (L' := [.inr 0, .inl x1, .inl x2, .inl x3, .inl x4, .inr 1000]) (F' := [.inl f0]) ⟨fun _ => rfl, fun _ => rfl, fun _ => rfl, fun _ => rfl, fun _ => rfl, fun (h : zv_is (.inr 1000)) => (Nat.lt_irrefl 1000 h).elim, trivial⟩ ⟨fun _ => rfl, trivial⟩ ?_
        exact hK
      · rw [if_neg (Int.not_lt.mpr hc36)] at h
        refine zv_ald hB zd287_243 rfl rfl rfl ?_
        refine zv_getr hB zd287_244 rfl ?_
        refine zv_con hB zd287_247 rfl ?_
        refine zv_ild hB zd287_250 rfl rfl ?_
        refine zv_mulw hB zd287_252 ?_
        refine zv_ild hB zd287_253 rfl rfl ?_
        refine zv_addw hB zd287_254 ?_
        obtain ⟨c37, h⟩ := zi_if h
        refine zv_iald hB zd287_255 rfl rfl (zi_ix_ok c37).1 (zi_ix_ok c37).2 (fun _ _ => ?_)
        refine zv_ald hB zd287_256 rfl rfl rfl ?_
        refine zv_getr hB zd287_257 rfl ?_
        refine zv_con hB zd287_260 rfl ?_
        refine zv_ild hB zd287_263 rfl rfl ?_
        refine zv_con hB zd287_265 rfl ?_
        refine zv_addw hB zd287_266 ?_
        refine zv_mulw hB zd287_267 ?_
        refine zv_ild hB zd287_268 rfl rfl ?_
        refine zv_addw hB zd287_269 ?_
        obtain ⟨c38, h⟩ := zi_if h
        refine zv_iald hB zd287_270 rfl rfl (zi_ix_ok c38).1 (zi_ix_ok c38).2 (fun _ _ => ?_)
        refine zv_cne hB zd287_271 rfl (fun hc39 => ?_) (fun hc39 => ?_)
        · rw [if_neg hc39] at h
          refine zv_ild hB zd287_277 rfl rfl ?_
          refine zv_con hB zd287_279 rfl ?_
          refine zv_ild hB zd287_280 rfl rfl ?_
          refine zv_shlw hB zd287_282 ?_
          refine zv_orw hB zd287_283 ?_
          refine zv_ist hB zd287_284 rfl rfl rfl ?_
          refine zv_ild hB zd287_286 rfl rfl ?_
          refine zv_ald hB zd287_287 rfl rfl rfl ?_
          refine zv_getr hB zd287_288 rfl ?_
          refine zv_ild hB zd287_291 rfl rfl ?_
          obtain ⟨c40, h⟩ := zi_if h
          refine zv_iald hB zd287_293 rfl rfl (zi_ix_ok c40).1 (zi_ix_ok c40).2 (fun _ _ => ?_)
          refine zv_subw hB zd287_294 ?_
          refine zv_ist hB zd287_295 rfl rfl rfl ?_
          refine zv_iincw hB zd287_296 rfl rfl ?_
          refine zv_goto hB zd287_299 rfl ?_
          exact ih _ _ _ _ _ _ _ _ _ _ q h hK
        · rw [if_pos hc39] at h
          refine zv_goto hB zd287_274 rfl ?_
          refine zv_iincw hB zd287_296 rfl rfl ?_
          refine zv_goto hB zd287_299 rfl ?_
          exact ih _ _ _ _ _ _ _ _ _ _ q h hK
  unfold zf_M_sold at h
  refine zv_ild hB zd287_0 rfl rfl ?_
  refine zv_con hB zd287_1 rfl ?_
  refine zv_con hB zd287_2 rfl ?_
  obtain ⟨r1, hr1, h⟩ := zi_bind h
  refine zv_cs hB (zv_emq (va2 := [.inl x1, .inl 0, .inl 999]) (F := [.inl f0]) (F' := [.inl f0]) (G := [g0, g1, g2, g3, g4, g5, g6, g7, g8, g9, g10]) (G' := [g0, g1, g2, g3, g4, g5, g6, g7, g8, g9, g10]) (ρ := []) (φ := []) (ψ := []) [none] [none, none, none, none, none, none, none, none, none, none, none] zyw_M_in zyw_M_sold zye_M_sold (by decide +kernel) (zt_M_in hr1) trivial trivial rfl rfl rfl rfl rfl rfl rfl) zd287_5 zxt200 rfl (by decide) (by decide) rfl ?_
  refine zv_zeq hB zd287_8 rfl (fun hc2 => ?_) (fun hc2 => ?_)
  · rw [if_pos hc2] at h
    refine zv_con hB zd287_20 rfl ?_
    have hw := Option.some.inj h
    subst hw
    exact hret _ _ _ _ _ zd287_21 (by trivial) ⟨rfl, rfl, rfl⟩
  · rw [if_neg hc2] at h
    refine zv_ild hB zd287_11 rfl rfl ?_
    refine zv_con hB zd287_12 rfl ?_
    refine zv_con hB zd287_13 rfl ?_
    obtain ⟨r3, hr3, h⟩ := zi_bind h
    refine zv_cs hB (zv_emq (va2 := [.inl x2, .inl 0, .inl 2]) (F := [.inl f0]) (F' := [.inl f0]) (G := [g0, g1, g2, g3, g4, g5, g6, g7, g8, g9, g10]) (G' := [g0, g1, g2, g3, g4, g5, g6, g7, g8, g9, g10]) (ρ := []) (φ := []) (ψ := []) [none] [none, none, none, none, none, none, none, none, none, none, none] zyw_M_in zyw_M_sold zye_M_sold (by decide +kernel) (zt_M_in hr3) trivial trivial rfl rfl rfl rfl rfl rfl rfl) zd287_14 zxt200 rfl (by decide) (by decide) rfl ?_
    refine zv_zne hB zd287_17 rfl (fun hc4 => ?_) (fun hc4 => ?_)
    · rw [if_neg hc4] at h
      refine zv_con hB zd287_22 rfl ?_
      refine zv_ist hB zd287_23 rfl rfl rfl ?_
      obtain ⟨q18, hq18, h⟩ := zi_bind h
      refine l0 _ _ _ _ _ _ _ _ _ q18 hq18 ?_
      show good 94 [.inr 0, .inl x1, .inl x2, .inr 1000, .inr 1000, .inr 1000] [] [.inl f0] [q18.1, g1, q18.2.1, q18.2.2.1, g4, g5, g6, g7, q18.2.2.2, g9, g10]
      refine zv_con hB zd287_94 rfl ?_
      refine zv_ist hB zd287_95 rfl rfl rfl ?_
      obtain ⟨q21, hq21, h⟩ := zi_bind h
      refine l1 _ _ _ _ _ _ _ _ _ q21 hq21 ?_
      show good 114 [.inr 0, .inl x1, .inl x2, .inr 1000, .inr 1000, .inr 1000] [] [.inl f0] [q18.1, g1, q18.2.1, q18.2.2.1, g4, g5, g6, g7, q18.2.2.2, g9, q21]
      refine zv_con hB zd287_114 rfl ?_
      refine zv_ist hB zd287_115 rfl rfl rfl ?_
      obtain ⟨q35, hq35, h⟩ := zi_bind h
      refine l2 _ _ _ _ _ _ _ _ _ q35 hq35 ?_
      show good 229 [.inr 0, .inl x1, .inl x2, .inr 1000, .inr 1000, .inr 1000] [] [.inl f0] [q18.1, g1, q18.2.1, q18.2.2.1, g4, g5, g6, g7, q18.2.2.2, g9, q35]
      refine zv_ild hB zd287_229 rfl rfl ?_
      refine zv_ist hB zd287_230 rfl rfl rfl ?_
      refine zv_con hB zd287_231 rfl ?_
      refine zv_ist hB zd287_232 rfl rfl rfl ?_
      refine zv_con hB zd287_234 rfl ?_
      refine zv_ist hB zd287_236 rfl rfl rfl ?_
      obtain ⟨q41, hq41, h⟩ := zi_bind h
      refine l4 _ _ _ _ _ _ _ _ _ _ _ q41 hq41 ?_
      show good 302 [.inr 0, .inl x1, .inl x2, .inl q41.1, .inl q41.2, .inr 1000] [] [.inl f0] [q18.1, g1, q18.2.1, q18.2.2.1, g4, g5, g6, g7, q18.2.2.2, g9, q35]
      refine zv_ild hB zd287_302 rfl rfl ?_
      refine zv_zne hB zd287_303 rfl (fun hc42 => ?_) (fun hc42 => ?_)
      · rw [if_neg hc42] at h
        refine zv_ild hB zd287_319 rfl rfl ?_
        refine zv_con hB zd287_320 rfl ?_
        refine zv_cne hB zd287_321 rfl (fun hc43 => ?_) (fun hc43 => ?_)
        · rw [if_neg hc43] at h
          refine zv_ild hB zd287_329 rfl rfl ?_
          refine zv_ild hB zd287_330 rfl rfl ?_
          refine zv_subw hB zd287_331 ?_
          have hw := Option.some.inj h
          subst hw
          exact hret _ _ _ _ _ zd287_332 (by trivial) ⟨rfl, rfl, rfl⟩
        · rw [if_pos hc43] at h
          refine zv_ild hB zd287_324 rfl rfl ?_
          refine zv_goto hB zd287_326 rfl ?_
          have hw := Option.some.inj h
          subst hw
          exact hret _ _ _ _ _ zd287_332 (by trivial) ⟨rfl, rfl, rfl⟩
      · rw [if_pos hc42] at h
        refine zv_ald hB zd287_306 rfl rfl rfl ?_
        refine zv_getr hB zd287_307 rfl ?_
        refine zv_con hB zd287_310 rfl ?_
        refine zv_ild hB zd287_313 rfl rfl ?_
        refine zv_addw hB zd287_314 ?_
        obtain ⟨c44, h⟩ := zi_if h
        refine zv_iald hB zd287_315 rfl rfl (zi_ix_ok c44).1 (zi_ix_ok c44).2 (fun _ _ => ?_)
        refine zv_goto hB zd287_316 rfl ?_
        have hw := Option.some.inj h
        subst hw
        exact hret _ _ _ _ _ zd287_332 (by trivial) ⟨rfl, rfl, rfl⟩
    · rw [if_pos hc4] at h
      refine zv_con hB zd287_20 rfl ?_
      have hw := Option.some.inj h
      subst hw
      exact hret _ _ _ _ _ zd287_21 (by trivial) ⟨rfl, rfl, rfl⟩
/-! M_sign (I)I -/
-- names: 
-- fields: ; arrays: ; out: [('ret', None)]
abbrev zy_M_sign : zNL := (0, [], [], [], [])
theorem zyw_M_sign : zv_wf zy_M_sign = true := by decide +kernel
theorem zye_M_sign : zv_ek2 zy_M_sign = true := by decide +kernel
def zf_M_sign (x0 : Int) : Option (Int) := if 0 < x0 then (some 1) else (if x0 < 0 then (some (-1)) else (some 0))
theorem zd293_0 : decode zxm293.2.1 0 = .ok (.iload_n 0, 1) := by decide +kernel
theorem zd293_1 : decode zxm293.2.1 1 = .ok (.ifCond .le 7, 3) := by decide +kernel
theorem zd293_4 : decode zxm293.2.1 4 = .ok (.iconst 1, 1) := by decide +kernel
theorem zd293_5 : decode zxm293.2.1 5 = .ok (.goto 12, 3) := by decide +kernel
theorem zd293_8 : decode zxm293.2.1 8 = .ok (.iload_n 0, 1) := by decide +kernel
theorem zd293_9 : decode zxm293.2.1 9 = .ok (.ifCond .ge 7, 3) := by decide +kernel
theorem zd293_12 : decode zxm293.2.1 12 = .ok (.iconst (-1), 1) := by decide +kernel
theorem zd293_13 : decode zxm293.2.1 13 = .ok (.goto 4, 3) := by decide +kernel
theorem zd293_16 : decode zxm293.2.1 16 = .ok (.iconst 0, 1) := by decide +kernel
theorem zd293_17 : decode zxm293.2.1 17 = .ok (.ireturn, 1) := by decide +kernel
theorem zt_M_sign {x0 : Int} {o : Int} (h : zf_M_sign x0 = some o) : zv_Fn z_TB z_cl z_KX zy_M_sign zxm293 (0, 0) [.inl x0] [] [] (some o) [] [] := zv_meth (K := (z_KF13, z_KC13, z_KL13, z_KT13, [], [], [], none)) (FT := z_FT) (MT := z_MT) (n := 1) zxp293 (z_ks13 _ (fun _ h => List.mem_cons_of_mem _ h) _ _ _ _ (fun j r h _ => by cases h)) (fun _ _ => zs_KX_p) zyw_M_sign (fun va F G h => by obtain ⟨rfl, _⟩ := h; rfl) (fun va F G h => by obtain ⟨rfl, _⟩ := h; rfl) rfl fun good va F G hB hret hvret hP => by
  obtain ⟨rfl, rfl, rfl⟩ := hP
  unfold zf_M_sign at h
  refine zv_ild hB zd293_0 rfl rfl ?_
  refine zv_zle hB zd293_1 rfl (fun hc1 => ?_) (fun hc1 => ?_)
  · rw [if_neg (Int.not_lt.mpr hc1)] at h
    refine zv_ild hB zd293_8 rfl rfl ?_
    refine zv_zge hB zd293_9 rfl (fun hc2 => ?_) (fun hc2 => ?_)
    · rw [if_neg (Int.not_lt.mpr hc2)] at h
      refine zv_con hB zd293_16 rfl ?_
      have hw := Option.some.inj h
      subst hw
      exact hret _ _ _ _ _ zd293_17 (by trivial) ⟨rfl, rfl, rfl⟩
    · rw [if_pos hc2] at h
      refine zv_con hB zd293_12 rfl ?_
      refine zv_goto hB zd293_13 rfl ?_
      have hw := Option.some.inj h
      subst hw
      exact hret _ _ _ _ _ zd293_17 (by trivial) ⟨rfl, rfl, rfl⟩
  · rw [if_pos hc1] at h
    refine zv_con hB zd293_4 rfl ?_
    refine zv_goto hB zd293_5 rfl ?_
    have hw := Option.some.inj h
    subst hw
    exact hret _ _ _ _ _ zd293_17 (by trivial) ⟨rfl, rfl, rfl⟩
end
section
/-! Methods as functions, and that they do what these do. -/
/-! M_steersFrom (II)I -/
-- names: 0 StarTalesModel('arg', 0), 1 (0, 422)(0, 12, 0), 2 (0, 14)(0, 12, 21), 3 (0, 13)(0, 12, 26), 4 (0, 14)(0, 12, 23), 5 (0, 14)(0, 12, 24), 6 (0, 220)(0, 12, 20), 7 (0, 220)(0, 12, 25)
-- fields: f0 = 0.clauses_; arrays: g0 = 1, g1 = 2, g2 = 3, g3 = 4, g4 = 5, g5 = 6, g6 = 7; out: [('ret', None), ('g', 2), ('g', 6)]
abbrev zy_M_steersFrom : zNL := (8, [(0, 12)], [(0, 12, 13, 0)], [(0, 12, 0, 1), (0, 12, 21, 2), (0, 12, 26, 3), (0, 12, 23, 4), (0, 12, 24, 5), (0, 12, 20, 6), (0, 12, 25, 7)], [(1, 0, 422, 0), (2, 0, 14, 1), (3, 0, 13, 2), (4, 0, 14, 3), (5, 0, 14, 4), (6, 0, 220, 5), (7, 0, 220, 6)])
theorem zyw_M_steersFrom : zv_wf zy_M_steersFrom = true := by decide +kernel
theorem zye_M_steersFrom : zv_ek2 zy_M_steersFrom = true := by decide +kernel
def zf_M_steersFrom (x1 : Int) (x2 : Int) (f0 : Int) (g0 : (Int → Int)) (g1 : (Int → Int)) (g2 : (Int → Int)) (g3 : (Int → Int)) (g4 : (Int → Int)) (g5 : (Int → Int)) (g6 : (Int → Int)) : Option (Int × (Int → Int) × (Int → Int)) := (zf_M_isSeen x1 x2 f0 g0 g1 g2 g3 g4 g5 g6).bind fun r1 => (if r1.1 = 0 then (some (x1, r1.2.1, r1.2.2)) else ((zf_M_standsAt x2 g0).bind fun r3 => ((zf_M_toRight (zi_rem x1 24) r3).bind fun r4 => (cond (zi_ix (zi_w (24 + x2)) 422) ((zf_M_size r4).bind fun r6 => ((zf_M_size (zi_w ((g0 (zi_w (24 + x2))) - (zi_div x1 24)))).bind fun r7 => (if r6 < r7 then ((zf_M_sign (zi_w ((g0 (zi_w (24 + x2))) - (zi_div x1 24)))).bind fun r9 => ((zf_M_isLand (zi_w (x1 + (zi_w (24 * r9)))) g0).bind fun r10 => (if r10 = 0 then (some ((zi_w (x1 + (zi_w (24 * r9)))), r1.2.1, r1.2.2)) else (some (x1, r1.2.1, r1.2.2))))) else ((zf_M_sign r4).bind fun r12 => ((zf_M_isLand (zi_w ((zi_w (24 * (zi_div x1 24))) + (zi_rem (zi_w ((zi_w ((zi_rem x1 24) + r12)) + 24)) 24))) g0).bind fun r13 => (if r13 = 0 then (some ((zi_w ((zi_w (24 * (zi_div x1 24))) + (zi_rem (zi_w ((zi_w ((zi_rem x1 24) + r12)) + 24)) 24))), r1.2.1, r1.2.2)) else (some (x1, r1.2.1, r1.2.2)))))))) none))))
theorem zd292_0 : decode zxm292.2.1 0 = .ok (.aload_n 0, 1) := by decide +kernel
theorem zd292_1 : decode zxm292.2.1 1 = .ok (.iload_n 1, 1) := by decide +kernel
theorem zd292_2 : decode zxm292.2.1 2 = .ok (.iload_n 2, 1) := by decide +kernel
theorem zd292_3 : decode zxm292.2.1 3 = .ok (.invokevirtual 297, 3) := by decide +kernel
theorem zd292_6 : decode zxm292.2.1 6 = .ok (.ifCond .ne 5, 3) := by decide +kernel
theorem zd292_9 : decode zxm292.2.1 9 = .ok (.iload_n 1, 1) := by decide +kernel
theorem zd292_10 : decode zxm292.2.1 10 = .ok (.ireturn, 1) := by decide +kernel
theorem zd292_11 : decode zxm292.2.1 11 = .ok (.iload_n 1, 1) := by decide +kernel
theorem zd292_12 : decode zxm292.2.1 12 = .ok (.bipush 24, 2) := by decide +kernel
theorem zd292_14 : decode zxm292.2.1 14 = .ok (.irem, 1) := by decide +kernel
theorem zd292_15 : decode zxm292.2.1 15 = .ok (.aload_n 0, 1) := by decide +kernel
theorem zd292_16 : decode zxm292.2.1 16 = .ok (.iload_n 2, 1) := by decide +kernel
theorem zd292_17 : decode zxm292.2.1 17 = .ok (.invokevirtual 281, 3) := by decide +kernel
theorem zd292_20 : decode zxm292.2.1 20 = .ok (.invokestatic 142, 3) := by decide +kernel
theorem zd292_23 : decode zxm292.2.1 23 = .ok (.istore_n 3, 1) := by decide +kernel
theorem zd292_24 : decode zxm292.2.1 24 = .ok (.aload_n 0, 1) := by decide +kernel
theorem zd292_25 : decode zxm292.2.1 25 = .ok (.getfield 7, 3) := by decide +kernel
theorem zd292_28 : decode zxm292.2.1 28 = .ok (.bipush 24, 2) := by decide +kernel
theorem zd292_30 : decode zxm292.2.1 30 = .ok (.iload_n 2, 1) := by decide +kernel
theorem zd292_31 : decode zxm292.2.1 31 = .ok (.iadd, 1) := by decide +kernel
theorem zd292_32 : decode zxm292.2.1 32 = .ok (.iaload, 1) := by decide +kernel
theorem zd292_33 : decode zxm292.2.1 33 = .ok (.iload_n 1, 1) := by decide +kernel
theorem zd292_34 : decode zxm292.2.1 34 = .ok (.bipush 24, 2) := by decide +kernel
theorem zd292_36 : decode zxm292.2.1 36 = .ok (.idiv, 1) := by decide +kernel
theorem zd292_37 : decode zxm292.2.1 37 = .ok (.isub, 1) := by decide +kernel
theorem zd292_38 : decode zxm292.2.1 38 = .ok (.istore 4, 2) := by decide +kernel
theorem zd292_40 : decode zxm292.2.1 40 = .ok (.iload_n 3, 1) := by decide +kernel
theorem zd292_41 : decode zxm292.2.1 41 = .ok (.invokestatic 146, 3) := by decide +kernel
theorem zd292_44 : decode zxm292.2.1 44 = .ok (.iload 4, 2) := by decide +kernel
theorem zd292_46 : decode zxm292.2.1 46 = .ok (.invokestatic 146, 3) := by decide +kernel
theorem zd292_49 : decode zxm292.2.1 49 = .ok (.if_icmp .lt 29, 3) := by decide +kernel
theorem zd292_52 : decode zxm292.2.1 52 = .ok (.bipush 24, 2) := by decide +kernel
theorem zd292_54 : decode zxm292.2.1 54 = .ok (.iload_n 1, 1) := by decide +kernel
theorem zd292_55 : decode zxm292.2.1 55 = .ok (.bipush 24, 2) := by decide +kernel
theorem zd292_57 : decode zxm292.2.1 57 = .ok (.idiv, 1) := by decide +kernel
theorem zd292_58 : decode zxm292.2.1 58 = .ok (.imul, 1) := by decide +kernel
theorem zd292_59 : decode zxm292.2.1 59 = .ok (.iload_n 1, 1) := by decide +kernel
theorem zd292_60 : decode zxm292.2.1 60 = .ok (.bipush 24, 2) := by decide +kernel
theorem zd292_62 : decode zxm292.2.1 62 = .ok (.irem, 1) := by decide +kernel
theorem zd292_63 : decode zxm292.2.1 63 = .ok (.iload_n 3, 1) := by decide +kernel
theorem zd292_64 : decode zxm292.2.1 64 = .ok (.invokestatic 418, 3) := by decide +kernel
theorem zd292_67 : decode zxm292.2.1 67 = .ok (.iadd, 1) := by decide +kernel
theorem zd292_68 : decode zxm292.2.1 68 = .ok (.bipush 24, 2) := by decide +kernel
theorem zd292_70 : decode zxm292.2.1 70 = .ok (.iadd, 1) := by decide +kernel
theorem zd292_71 : decode zxm292.2.1 71 = .ok (.bipush 24, 2) := by decide +kernel
theorem zd292_73 : decode zxm292.2.1 73 = .ok (.irem, 1) := by decide +kernel
theorem zd292_74 : decode zxm292.2.1 74 = .ok (.iadd, 1) := by decide +kernel
theorem zd292_75 : decode zxm292.2.1 75 = .ok (.goto 13, 3) := by decide +kernel
theorem zd292_78 : decode zxm292.2.1 78 = .ok (.iload_n 1, 1) := by decide +kernel
theorem zd292_79 : decode zxm292.2.1 79 = .ok (.bipush 24, 2) := by decide +kernel
theorem zd292_81 : decode zxm292.2.1 81 = .ok (.iload 4, 2) := by decide +kernel
theorem zd292_83 : decode zxm292.2.1 83 = .ok (.invokestatic 418, 3) := by decide +kernel
theorem zd292_86 : decode zxm292.2.1 86 = .ok (.imul, 1) := by decide +kernel
theorem zd292_87 : decode zxm292.2.1 87 = .ok (.iadd, 1) := by decide +kernel
theorem zd292_88 : decode zxm292.2.1 88 = .ok (.istore 5, 2) := by decide +kernel
theorem zd292_90 : decode zxm292.2.1 90 = .ok (.aload_n 0, 1) := by decide +kernel
theorem zd292_91 : decode zxm292.2.1 91 = .ok (.iload 5, 2) := by decide +kernel
theorem zd292_93 : decode zxm292.2.1 93 = .ok (.invokevirtual 165, 3) := by decide +kernel
theorem zd292_96 : decode zxm292.2.1 96 = .ok (.ifCond .eq 7, 3) := by decide +kernel
theorem zd292_99 : decode zxm292.2.1 99 = .ok (.iload_n 1, 1) := by decide +kernel
theorem zd292_100 : decode zxm292.2.1 100 = .ok (.goto 5, 3) := by decide +kernel
theorem zd292_103 : decode zxm292.2.1 103 = .ok (.iload 5, 2) := by decide +kernel
theorem zd292_105 : decode zxm292.2.1 105 = .ok (.ireturn, 1) := by decide +kernel
theorem zt_M_steersFrom {x1 : Int} {x2 : Int} {f0 : Int} {g0 : (Int → Int)} {g1 : (Int → Int)} {g2 : (Int → Int)} {g3 : (Int → Int)} {g4 : (Int → Int)} {g5 : (Int → Int)} {g6 : (Int → Int)} {o : Int × (Int → Int) × (Int → Int)} (h : zf_M_steersFrom x1 x2 f0 g0 g1 g2 g3 g4 g5 g6 = some o) : zv_Fn z_TB z_cl z_KX zy_M_steersFrom zxm292 (4, 240) [.inr 0, .inl x1, .inl x2] [.inl f0] [g0, g1, g2, g3, g4, g5, g6] (some o.1) [.inl f0] [g0, g1, o.2.1, g3, g4, g5, o.2.2] := zv_meth (K := (z_KF13, z_KC13, z_KL13, z_KT13, [], [], [], none)) (FT := z_FT) (MT := z_MT) (n := 3) zxp292 (z_ks13 _ (fun _ h => List.mem_cons_of_mem _ h) _ _ _ _ (fun j r h _ => by cases h)) (fun _ _ => zs_KX_p) zyw_M_steersFrom (fun va F G h => by obtain ⟨rfl, _⟩ := h; rfl) (fun va F G h => by obtain ⟨rfl, _⟩ := h; rfl) rfl fun good va F G hB hret hvret hP => by
  obtain ⟨rfl, rfl, rfl⟩ := hP
  unfold zf_M_steersFrom at h
  refine zv_ald hB zd292_0 rfl rfl rfl ?_
  refine zv_ild hB zd292_1 rfl rfl ?_
  refine zv_ild hB zd292_2 rfl rfl ?_
  obtain ⟨r1, hr1, h⟩ := zi_bind h
  refine zv_cv hB (zv_emq (va2 := [.inr 0, .inl x1, .inl x2]) (F := [.inl f0]) (F' := [.inl f0]) (G := [g0, g1, g2, g3, g4, g5, g6]) (G' := [g0, g1, r1.2.1, g3, g4, g5, r1.2.2]) (ρ := [0, 1, 2, 3, 4, 5, 6, 7]) (φ := [0]) (ψ := [0, 1, 2, 3, 4, 5, 6]) [some 0] [some 0, some 1, some 2, some 3, some 4, some 5, some 6] zyw_M_isSeen zyw_M_steersFrom zye_M_steersFrom (by decide +kernel) (zt_M_isSeen hr1) ⟨⟨_, rfl, fun _ => rfl⟩, trivial⟩ ⟨rfl, rfl, rfl, rfl, rfl, rfl, rfl, trivial⟩ rfl rfl rfl rfl rfl rfl rfl) zd292_3 zxt241 rfl (by decide) (by decide) rfl ?_
  refine zv_zne hB zd292_6 rfl (fun hc2 => ?_) (fun hc2 => ?_)
  · rw [if_neg hc2] at h
    refine zv_ild hB zd292_11 rfl rfl ?_
    refine zv_con hB zd292_12 rfl ?_
    refine zv_remw hB zd292_14 (by decide) ?_
    refine zv_ald hB zd292_15 rfl rfl rfl ?_
    refine zv_ild hB zd292_16 rfl rfl ?_
    obtain ⟨r3, hr3, h⟩ := zi_bind h
    refine zv_cv hB (zv_emq (va2 := [.inr 0, .inl x2]) (F := [.inl f0]) (F' := [.inl f0]) (G := [g0, g1, r1.2.1, g3, g4, g5, r1.2.2]) (G' := [g0, g1, r1.2.1, g3, g4, g5, r1.2.2]) (ρ := [0, 1]) (φ := []) (ψ := [0]) [none] [some 0, none, none, none, none, none, none] zyw_M_standsAt zyw_M_steersFrom zye_M_steersFrom (by decide +kernel) (zt_M_standsAt hr3) trivial ⟨rfl, trivial⟩ rfl rfl rfl rfl rfl rfl rfl) zd292_17 zxt238 rfl (by decide) (by decide) rfl ?_
    obtain ⟨r4, hr4, h⟩ := zi_bind h
    refine zv_cs hB (zv_emq (va2 := [.inl (zi_rem x1 24), .inl r3]) (F := [.inl f0]) (F' := [.inl f0]) (G := [g0, g1, r1.2.1, g3, g4, g5, r1.2.2]) (G' := [g0, g1, r1.2.1, g3, g4, g5, r1.2.2]) (ρ := []) (φ := []) (ψ := []) [none] [none, none, none, none, none, none, none] zyw_M_toRight zyw_M_steersFrom zye_M_steersFrom (by decide +kernel) (zt_M_toRight hr4) trivial trivial rfl rfl rfl rfl rfl rfl rfl) zd292_20 zxt242 rfl (by decide) (by decide) rfl ?_
    refine zv_ist hB zd292_23 rfl rfl rfl ?_
    refine zv_ald hB zd292_24 rfl rfl rfl ?_
    refine zv_getr hB zd292_25 rfl ?_
    refine zv_con hB zd292_28 rfl ?_
    refine zv_ild hB zd292_30 rfl rfl ?_
    refine zv_addw hB zd292_31 ?_
    obtain ⟨c5, h⟩ := zi_if h
    refine zv_iald hB zd292_32 rfl rfl (zi_ix_ok c5).1 (zi_ix_ok c5).2 (fun _ _ => ?_)
    refine zv_ild hB zd292_33 rfl rfl ?_
    refine zv_con hB zd292_34 rfl ?_
    refine zv_divw hB zd292_36 (by decide) ?_
    refine zv_subw hB zd292_37 ?_
    refine zv_ist hB zd292_38 rfl rfl rfl ?_
    refine zv_ild hB zd292_40 rfl rfl ?_
    obtain ⟨r6, hr6, h⟩ := zi_bind h
    refine zv_cs hB (zv_emq (va2 := [.inl r4]) (F := [.inl f0]) (F' := [.inl f0]) (G := [g0, g1, r1.2.1, g3, g4, g5, r1.2.2]) (G' := [g0, g1, r1.2.1, g3, g4, g5, r1.2.2]) (ρ := []) (φ := []) (ψ := []) [none] [none, none, none, none, none, none, none] zyw_M_size zyw_M_steersFrom zye_M_steersFrom (by decide +kernel) (zt_M_size hr6) trivial trivial rfl rfl rfl rfl rfl rfl rfl) zd292_41 zxt243 rfl (by decide) (by decide) rfl ?_
    refine zv_ild hB zd292_44 rfl rfl ?_
    obtain ⟨r7, hr7, h⟩ := zi_bind h
    refine zv_cs hB (zv_emq (va2 := [.inl (zi_w ((g0 (zi_w (24 + x2))) - (zi_div x1 24)))]) (F := [.inl f0]) (F' := [.inl f0]) (G := [g0, g1, r1.2.1, g3, g4, g5, r1.2.2]) (G' := [g0, g1, r1.2.1, g3, g4, g5, r1.2.2]) (ρ := []) (φ := []) (ψ := []) [none] [none, none, none, none, none, none, none] zyw_M_size zyw_M_steersFrom zye_M_steersFrom (by decide +kernel) (zt_M_size hr7) trivial trivial rfl rfl rfl rfl rfl rfl rfl) zd292_46 zxt243 rfl (by decide) (by decide) rfl ?_
    refine zv_clt hB zd292_49 rfl (fun hc8 => ?_) (fun hc8 => ?_)
    · rw [if_pos hc8] at h
      refine zv_ild hB zd292_78 rfl rfl ?_
      refine zv_con hB zd292_79 rfl ?_
      refine zv_ild hB zd292_81 rfl rfl ?_
      obtain ⟨r9, hr9, h⟩ := zi_bind h
      refine zv_cs hB (zv_emq (va2 := [.inl (zi_w ((g0 (zi_w (24 + x2))) - (zi_div x1 24)))]) (F := [.inl f0]) (F' := [.inl f0]) (G := [g0, g1, r1.2.1, g3, g4, g5, r1.2.2]) (G' := [g0, g1, r1.2.1, g3, g4, g5, r1.2.2]) (ρ := []) (φ := []) (ψ := []) [none] [none, none, none, none, none, none, none] zyw_M_sign zyw_M_steersFrom zye_M_steersFrom (by decide +kernel) (zt_M_sign hr9) trivial trivial rfl rfl rfl rfl rfl rfl rfl) zd292_83 zxt293 rfl (by decide) (by decide) rfl ?_
      refine zv_mulw hB zd292_86 ?_
      refine zv_addw hB zd292_87 ?_
      refine zv_ist hB zd292_88 rfl rfl rfl ?_
      refine zv_ald hB zd292_90 rfl rfl rfl ?_
      refine zv_ild hB zd292_91 rfl rfl ?_
      obtain ⟨r10, hr10, h⟩ := zi_bind h
      refine zv_cv hB (zv_emq (va2 := [.inr 0, .inl (zi_w (x1 + (zi_w (24 * r9))))]) (F := [.inl f0]) (F' := [.inl f0]) (G := [g0, g1, r1.2.1, g3, g4, g5, r1.2.2]) (G' := [g0, g1, r1.2.1, g3, g4, g5, r1.2.2]) (ρ := [0, 1]) (φ := []) (ψ := [0]) [none] [some 0, none, none, none, none, none, none] zyw_M_isLand zyw_M_steersFrom zye_M_steersFrom (by decide +kernel) (zt_M_isLand hr10) trivial ⟨rfl, trivial⟩ rfl rfl rfl rfl rfl rfl rfl) zd292_93 zxt212 rfl (by decide) (by decide) rfl ?_
      refine zv_zeq hB zd292_96 rfl (fun hc11 => ?_) (fun hc11 => ?_)
      · rw [if_pos hc11] at h
        refine zv_ild hB zd292_103 rfl rfl ?_
        have hw := Option.some.inj h
        subst hw
        exact hret _ _ _ _ _ zd292_105 (by trivial) ⟨rfl, rfl, rfl⟩
      · rw [if_neg hc11] at h
        refine zv_ild hB zd292_99 rfl rfl ?_
        refine zv_goto hB zd292_100 rfl ?_
        have hw := Option.some.inj h
        subst hw
        exact hret _ _ _ _ _ zd292_105 (by trivial) ⟨rfl, rfl, rfl⟩
    · rw [if_neg (Int.not_lt.mpr hc8)] at h
      refine zv_con hB zd292_52 rfl ?_
      refine zv_ild hB zd292_54 rfl rfl ?_
      refine zv_con hB zd292_55 rfl ?_
      refine zv_divw hB zd292_57 (by decide) ?_
      refine zv_mulw hB zd292_58 ?_
      refine zv_ild hB zd292_59 rfl rfl ?_
      refine zv_con hB zd292_60 rfl ?_
      refine zv_remw hB zd292_62 (by decide) ?_
      refine zv_ild hB zd292_63 rfl rfl ?_
      obtain ⟨r12, hr12, h⟩ := zi_bind h
      refine zv_cs hB (zv_emq (va2 := [.inl r4]) (F := [.inl f0]) (F' := [.inl f0]) (G := [g0, g1, r1.2.1, g3, g4, g5, r1.2.2]) (G' := [g0, g1, r1.2.1, g3, g4, g5, r1.2.2]) (ρ := []) (φ := []) (ψ := []) [none] [none, none, none, none, none, none, none] zyw_M_sign zyw_M_steersFrom zye_M_steersFrom (by decide +kernel) (zt_M_sign hr12) trivial trivial rfl rfl rfl rfl rfl rfl rfl) zd292_64 zxt293 rfl (by decide) (by decide) rfl ?_
      refine zv_addw hB zd292_67 ?_
      refine zv_con hB zd292_68 rfl ?_
      refine zv_addw hB zd292_70 ?_
      refine zv_con hB zd292_71 rfl ?_
      refine zv_remw hB zd292_73 (by decide) ?_
      refine zv_addw hB zd292_74 ?_
      refine zv_goto hB zd292_75 rfl ?_
      refine zv_ist hB zd292_88 rfl rfl rfl ?_
      refine zv_ald hB zd292_90 rfl rfl rfl ?_
      refine zv_ild hB zd292_91 rfl rfl ?_
      obtain ⟨r13, hr13, h⟩ := zi_bind h
      refine zv_cv hB (zv_emq (va2 := [.inr 0, .inl (zi_w ((zi_w (24 * (zi_div x1 24))) + (zi_rem (zi_w ((zi_w ((zi_rem x1 24) + r12)) + 24)) 24)))]) (F := [.inl f0]) (F' := [.inl f0]) (G := [g0, g1, r1.2.1, g3, g4, g5, r1.2.2]) (G' := [g0, g1, r1.2.1, g3, g4, g5, r1.2.2]) (ρ := [0, 1]) (φ := []) (ψ := [0]) [none] [some 0, none, none, none, none, none, none] zyw_M_isLand zyw_M_steersFrom zye_M_steersFrom (by decide +kernel) (zt_M_isLand hr13) trivial ⟨rfl, trivial⟩ rfl rfl rfl rfl rfl rfl rfl) zd292_93 zxt212 rfl (by decide) (by decide) rfl ?_
      refine zv_zeq hB zd292_96 rfl (fun hc14 => ?_) (fun hc14 => ?_)
      · rw [if_pos hc14] at h
        refine zv_ild hB zd292_103 rfl rfl ?_
        have hw := Option.some.inj h
        subst hw
        exact hret _ _ _ _ _ zd292_105 (by trivial) ⟨rfl, rfl, rfl⟩
      · rw [if_neg hc14] at h
        refine zv_ild hB zd292_99 rfl rfl ?_
        refine zv_goto hB zd292_100 rfl ?_
        have hw := Option.some.inj h
        subst hw
        exact hret _ _ _ _ _ zd292_105 (by trivial) ⟨rfl, rfl, rfl⟩
  · rw [if_pos hc2] at h
    refine zv_ild hB zd292_9 rfl rfl ?_
    have hw := Option.some.inj h
    subst hw
    exact hret _ _ _ _ _ zd292_10 (by trivial) ⟨rfl, rfl, rfl⟩
/-! M_held (II)I -/
-- names: 
-- fields: ; arrays: ; out: [('ret', None)]
abbrev zy_M_held : zNL := (0, [], [], [], [])
theorem zyw_M_held : zv_wf zy_M_held = true := by decide +kernel
theorem zye_M_held : zv_ek2 zy_M_held = true := by decide +kernel
def zf_M_held (x0 : Int) (x1 : Int) : Option (Int) := if x0 < 0 then (some 0) else (if x1 < x0 then (some x1) else (some x0))
theorem zd296_0 : decode zxm296.2.1 0 = .ok (.iload_n 0, 1) := by decide +kernel
theorem zd296_1 : decode zxm296.2.1 1 = .ok (.ifCond .ge 7, 3) := by decide +kernel
theorem zd296_4 : decode zxm296.2.1 4 = .ok (.iconst 0, 1) := by decide +kernel
theorem zd296_5 : decode zxm296.2.1 5 = .ok (.goto 13, 3) := by decide +kernel
theorem zd296_8 : decode zxm296.2.1 8 = .ok (.iload_n 0, 1) := by decide +kernel
theorem zd296_9 : decode zxm296.2.1 9 = .ok (.iload_n 1, 1) := by decide +kernel
theorem zd296_10 : decode zxm296.2.1 10 = .ok (.if_icmp .le 7, 3) := by decide +kernel
theorem zd296_13 : decode zxm296.2.1 13 = .ok (.iload_n 1, 1) := by decide +kernel
theorem zd296_14 : decode zxm296.2.1 14 = .ok (.goto 4, 3) := by decide +kernel
theorem zd296_17 : decode zxm296.2.1 17 = .ok (.iload_n 0, 1) := by decide +kernel
theorem zd296_18 : decode zxm296.2.1 18 = .ok (.ireturn, 1) := by decide +kernel
theorem zt_M_held {x0 : Int} {x1 : Int} {o : Int} (h : zf_M_held x0 x1 = some o) : zv_Fn z_TB z_cl z_KX zy_M_held zxm296 (0, 0) [.inl x0, .inl x1] [] [] (some o) [] [] := zv_meth (K := (z_KF13, z_KC13, z_KL13, z_KT13, [], [], [], none)) (FT := z_FT) (MT := z_MT) (n := 2) zxp296 (z_ks13 _ (fun _ h => List.mem_cons_of_mem _ h) _ _ _ _ (fun j r h _ => by cases h)) (fun _ _ => zs_KX_p) zyw_M_held (fun va F G h => by obtain ⟨rfl, _⟩ := h; rfl) (fun va F G h => by obtain ⟨rfl, _⟩ := h; rfl) rfl fun good va F G hB hret hvret hP => by
  obtain ⟨rfl, rfl, rfl⟩ := hP
  unfold zf_M_held at h
  refine zv_ild hB zd296_0 rfl rfl ?_
  refine zv_zge hB zd296_1 rfl (fun hc1 => ?_) (fun hc1 => ?_)
  · rw [if_neg (Int.not_lt.mpr hc1)] at h
    refine zv_ild hB zd296_8 rfl rfl ?_
    refine zv_ild hB zd296_9 rfl rfl ?_
    refine zv_cle hB zd296_10 rfl (fun hc2 => ?_) (fun hc2 => ?_)
    · rw [if_neg (Int.not_lt.mpr hc2)] at h
      refine zv_ild hB zd296_17 rfl rfl ?_
      have hw := Option.some.inj h
      subst hw
      exact hret _ _ _ _ _ zd296_18 (by trivial) ⟨rfl, rfl, rfl⟩
    · rw [if_pos hc2] at h
      refine zv_ild hB zd296_13 rfl rfl ?_
      refine zv_goto hB zd296_14 rfl ?_
      have hw := Option.some.inj h
      subst hw
      exact hret _ _ _ _ _ zd296_18 (by trivial) ⟨rfl, rfl, rfl⟩
  · rw [if_pos hc1] at h
    refine zv_con hB zd296_4 rfl ?_
    refine zv_goto hB zd296_5 rfl ?_
    have hw := Option.some.inj h
    subst hw
    exact hret _ _ _ _ _ zd296_18 (by trivial) ⟨rfl, rfl, rfl⟩
/-! M_walks ()V -/
-- names: 0 StarTalesModel('arg', 0), 1 (0, 422)(0, 12, 0)
-- fields: ; arrays: g0 = 1; out: [('g', 0)]
abbrev zy_M_walks : zNL := (2, [(0, 12)], [], [(0, 12, 0, 1)], [(1, 0, 422, 0)])
theorem zyw_M_walks : zv_wf zy_M_walks = true := by decide +kernel
theorem zye_M_walks : zv_ek2 zy_M_walks = true := by decide +kernel
def zf_M_walks_l0_b (rec : Int → (Int → Int) → Option ((Int → Int))) (x1 : Int) (g0 : (Int → Int)) : Option ((Int → Int)) := if x1 < 24 then ((zf_M_isTold x1 g0).bind fun r2 => (if r2 = 0 then (rec (zi_w (x1 + 1)) g0) else (cond (zi_ix (zi_w (0 + x1)) 422) (cond (zi_ix (zi_w (72 + x1)) 422) (cond (zi_ix (zi_w (24 + x1)) 422) (cond (zi_ix (zi_w (96 + x1)) 422) ((zf_M_held (zi_w (((zv_up g0 (zi_w (0 + x1)) (zi_rem (zi_w ((zi_w ((g0 (zi_w (0 + x1))) + (g0 (zi_w (72 + x1))))) + 24)) 24)) (zi_w (24 + x1))) + ((zv_up g0 (zi_w (0 + x1)) (zi_rem (zi_w ((zi_w ((g0 (zi_w (0 + x1))) + (g0 (zi_w (72 + x1))))) + 24)) 24)) (zi_w (96 + x1))))) 11).bind fun r8 => (rec (zi_w (x1 + 1)) (zv_up (zv_up g0 (zi_w (0 + x1)) (zi_rem (zi_w ((zi_w ((g0 (zi_w (0 + x1))) + (g0 (zi_w (72 + x1))))) + 24)) 24)) (zi_w (24 + x1)) r8))) none) none) none) none))) else (some g0)
def zf_M_walks_l0 : Nat → Int → (Int → Int) → Option ((Int → Int))
  | 0, _, _ => none
  | n + 1, x1, g0 => zf_M_walks_l0_b (zf_M_walks_l0 n) x1 g0
def zf_M_walks (g0 : (Int → Int)) : Option ((Int → Int)) := (zf_M_walks_l0 zi_fu 0 g0).bind fun q9 => (some q9)
theorem zd295_0 : decode zxm295.2.1 0 = .ok (.iconst 0, 1) := by decide +kernel
theorem zd295_1 : decode zxm295.2.1 1 = .ok (.istore_n 1, 1) := by decide +kernel
theorem zd295_2 : decode zxm295.2.1 2 = .ok (.iload_n 1, 1) := by decide +kernel
theorem zd295_3 : decode zxm295.2.1 3 = .ok (.bipush 24, 2) := by decide +kernel
theorem zd295_5 : decode zxm295.2.1 5 = .ok (.if_icmp .ge 85, 3) := by decide +kernel
theorem zd295_8 : decode zxm295.2.1 8 = .ok (.aload_n 0, 1) := by decide +kernel
theorem zd295_9 : decode zxm295.2.1 9 = .ok (.iload_n 1, 1) := by decide +kernel
theorem zd295_10 : decode zxm295.2.1 10 = .ok (.invokevirtual 157, 3) := by decide +kernel
theorem zd295_13 : decode zxm295.2.1 13 = .ok (.ifCond .ne 6, 3) := by decide +kernel
theorem zd295_16 : decode zxm295.2.1 16 = .ok (.goto 68, 3) := by decide +kernel
theorem zd295_19 : decode zxm295.2.1 19 = .ok (.aload_n 0, 1) := by decide +kernel
theorem zd295_20 : decode zxm295.2.1 20 = .ok (.getfield 7, 3) := by decide +kernel
theorem zd295_23 : decode zxm295.2.1 23 = .ok (.iconst 0, 1) := by decide +kernel
theorem zd295_24 : decode zxm295.2.1 24 = .ok (.iload_n 1, 1) := by decide +kernel
theorem zd295_25 : decode zxm295.2.1 25 = .ok (.iadd, 1) := by decide +kernel
theorem zd295_26 : decode zxm295.2.1 26 = .ok (.aload_n 0, 1) := by decide +kernel
theorem zd295_27 : decode zxm295.2.1 27 = .ok (.getfield 7, 3) := by decide +kernel
theorem zd295_30 : decode zxm295.2.1 30 = .ok (.iconst 0, 1) := by decide +kernel
theorem zd295_31 : decode zxm295.2.1 31 = .ok (.iload_n 1, 1) := by decide +kernel
theorem zd295_32 : decode zxm295.2.1 32 = .ok (.iadd, 1) := by decide +kernel
theorem zd295_33 : decode zxm295.2.1 33 = .ok (.iaload, 1) := by decide +kernel
theorem zd295_34 : decode zxm295.2.1 34 = .ok (.aload_n 0, 1) := by decide +kernel
theorem zd295_35 : decode zxm295.2.1 35 = .ok (.getfield 7, 3) := by decide +kernel
theorem zd295_38 : decode zxm295.2.1 38 = .ok (.bipush 72, 2) := by decide +kernel
theorem zd295_40 : decode zxm295.2.1 40 = .ok (.iload_n 1, 1) := by decide +kernel
theorem zd295_41 : decode zxm295.2.1 41 = .ok (.iadd, 1) := by decide +kernel
theorem zd295_42 : decode zxm295.2.1 42 = .ok (.iaload, 1) := by decide +kernel
theorem zd295_43 : decode zxm295.2.1 43 = .ok (.iadd, 1) := by decide +kernel
theorem zd295_44 : decode zxm295.2.1 44 = .ok (.bipush 24, 2) := by decide +kernel
theorem zd295_46 : decode zxm295.2.1 46 = .ok (.iadd, 1) := by decide +kernel
theorem zd295_47 : decode zxm295.2.1 47 = .ok (.bipush 24, 2) := by decide +kernel
theorem zd295_49 : decode zxm295.2.1 49 = .ok (.irem, 1) := by decide +kernel
theorem zd295_50 : decode zxm295.2.1 50 = .ok (.iastore, 1) := by decide +kernel
theorem zd295_51 : decode zxm295.2.1 51 = .ok (.aload_n 0, 1) := by decide +kernel
theorem zd295_52 : decode zxm295.2.1 52 = .ok (.getfield 7, 3) := by decide +kernel
theorem zd295_55 : decode zxm295.2.1 55 = .ok (.bipush 24, 2) := by decide +kernel
theorem zd295_57 : decode zxm295.2.1 57 = .ok (.iload_n 1, 1) := by decide +kernel
theorem zd295_58 : decode zxm295.2.1 58 = .ok (.iadd, 1) := by decide +kernel
theorem zd295_59 : decode zxm295.2.1 59 = .ok (.aload_n 0, 1) := by decide +kernel
theorem zd295_60 : decode zxm295.2.1 60 = .ok (.getfield 7, 3) := by decide +kernel
theorem zd295_63 : decode zxm295.2.1 63 = .ok (.bipush 24, 2) := by decide +kernel
theorem zd295_65 : decode zxm295.2.1 65 = .ok (.iload_n 1, 1) := by decide +kernel
theorem zd295_66 : decode zxm295.2.1 66 = .ok (.iadd, 1) := by decide +kernel
theorem zd295_67 : decode zxm295.2.1 67 = .ok (.iaload, 1) := by decide +kernel
theorem zd295_68 : decode zxm295.2.1 68 = .ok (.aload_n 0, 1) := by decide +kernel
theorem zd295_69 : decode zxm295.2.1 69 = .ok (.getfield 7, 3) := by decide +kernel
theorem zd295_72 : decode zxm295.2.1 72 = .ok (.bipush 96, 2) := by decide +kernel
theorem zd295_74 : decode zxm295.2.1 74 = .ok (.iload_n 1, 1) := by decide +kernel
theorem zd295_75 : decode zxm295.2.1 75 = .ok (.iadd, 1) := by decide +kernel
theorem zd295_76 : decode zxm295.2.1 76 = .ok (.iaload, 1) := by decide +kernel
theorem zd295_77 : decode zxm295.2.1 77 = .ok (.iadd, 1) := by decide +kernel
theorem zd295_78 : decode zxm295.2.1 78 = .ok (.bipush 11, 2) := by decide +kernel
theorem zd295_80 : decode zxm295.2.1 80 = .ok (.invokestatic 411, 3) := by decide +kernel
theorem zd295_83 : decode zxm295.2.1 83 = .ok (.iastore, 1) := by decide +kernel
theorem zd295_84 : decode zxm295.2.1 84 = .ok (.iinc 1 1, 3) := by decide +kernel
theorem zd295_87 : decode zxm295.2.1 87 = .ok (.goto (-85), 3) := by decide +kernel
theorem zd295_90 : decode zxm295.2.1 90 = .ok (.return_, 1) := by decide +kernel
theorem zt_M_walks {g0 : (Int → Int)} {o : (Int → Int)} (h : zf_M_walks g0 = some o) : zv_Fn z_TB z_cl z_KX zy_M_walks zxm295 (2, 120) [.inr 0] [] [g0] none [] [o] := zv_meth (K := (z_KF13, z_KC13, z_KL13, z_KT13, [], [], [], none)) (FT := z_FT) (MT := z_MT) (n := 1) zxp295 (z_ks13 _ (fun _ h => List.mem_cons_of_mem _ h) _ _ _ _ (fun j r h _ => by cases h)) (fun _ _ => zs_KX_p) zyw_M_walks (fun va F G h => by obtain ⟨rfl, _⟩ := h; rfl) (fun va F G h => by obtain ⟨rfl, _⟩ := h; rfl) rfl fun good va F G hB hret hvret hP => by
  obtain ⟨rfl, rfl, rfl⟩ := hP
  have l0 : ∀ (n : Nat) (x1 : Int) (g0 : (Int → Int)) (q : (Int → Int)), zf_M_walks_l0 n x1 g0 = some q → (good 90 [.inr 1000, .inr 1000] [] [] [q]) → good 2 [.inr 0, .inl x1] [] [] [g0] := by
    intro n
    induction n with
    | zero => intro x1 g0 q h; exact absurd (show none = some q from h) (fun h => by cases h)
    | succ n ih =>
      intro x1 g0 q h hK
      replace h : zf_M_walks_l0_b (zf_M_walks_l0 n) x1 g0 = some q := h
      unfold zf_M_walks_l0_b at h
      refine zv_ild hB zd295_2 rfl rfl ?_
      refine zv_con hB zd295_3 rfl ?_
      refine zv_cge hB zd295_5 rfl (fun hc1 => ?_) (fun hc1 => ?_)
      · rw [if_neg (Int.not_lt.mpr hc1)] at h
        have hq := Option.some.inj h
        subst hq
        refine zv_wk hB (L' := [.inr 1000, .inr 1000]) (F' := []) ⟨fun (h : zv_is (.inr 1000)) => (Nat.lt_irrefl 1000 h).elim, fun (h : zv_is (.inr 1000)) => (Nat.lt_irrefl 1000 h).elim, trivial⟩ trivial ?_
        exact hK
      · rw [if_pos hc1] at h
        refine zv_ald hB zd295_8 rfl rfl rfl ?_
        refine zv_ild hB zd295_9 rfl rfl ?_
        obtain ⟨r2, hr2, h⟩ := zi_bind h
        refine zv_cv hB (zv_emq (va2 := [.inr 0, .inl x1]) (F := []) (F' := []) (G := [g0]) (G' := [g0]) (ρ := [0, 1]) (φ := []) (ψ := [0]) [] [some 0] zyw_M_isTold zyw_M_walks zye_M_walks (by decide +kernel) (zt_M_isTold hr2) trivial ⟨rfl, trivial⟩ rfl rfl rfl rfl rfl rfl rfl) zd295_10 zxt203 rfl (by decide) (by decide) rfl ?_
        refine zv_zne hB zd295_13 rfl (fun hc3 => ?_) (fun hc3 => ?_)
        · rw [if_neg hc3] at h
          refine zv_ald hB zd295_19 rfl rfl rfl ?_
          refine zv_getr hB zd295_20 rfl ?_
          refine zv_con hB zd295_23 rfl ?_
          refine zv_ild hB zd295_24 rfl rfl ?_
          refine zv_addw hB zd295_25 ?_
          refine zv_ald hB zd295_26 rfl rfl rfl ?_
          refine zv_getr hB zd295_27 rfl ?_
          refine zv_con hB zd295_30 rfl ?_
          refine zv_ild hB zd295_31 rfl rfl ?_
          refine zv_addw hB zd295_32 ?_
          obtain ⟨c4, h⟩ := zi_if h
          refine zv_iald hB zd295_33 rfl rfl (zi_ix_ok c4).1 (zi_ix_ok c4).2 (fun _ _ => ?_)
          refine zv_ald hB zd295_34 rfl rfl rfl ?_
          refine zv_getr hB zd295_35 rfl ?_
          refine zv_con hB zd295_38 rfl ?_
          refine zv_ild hB zd295_40 rfl rfl ?_
          refine zv_addw hB zd295_41 ?_
          obtain ⟨c5, h⟩ := zi_if h
          refine zv_iald hB zd295_42 rfl rfl (zi_ix_ok c5).1 (zi_ix_ok c5).2 (fun _ _ => ?_)
          refine zv_addw hB zd295_43 ?_
          refine zv_con hB zd295_44 rfl ?_
          refine zv_addw hB zd295_46 ?_
          refine zv_con hB zd295_47 rfl ?_
          refine zv_remw hB zd295_49 (by decide) ?_
          refine zv_iast hB zd295_50 rfl rfl (zi_ix_ok c4).1 (zi_ix_ok c4).2 ?_
          refine zv_ald hB zd295_51 rfl rfl rfl ?_
          refine zv_getr hB zd295_52 rfl ?_
          refine zv_con hB zd295_55 rfl ?_
          refine zv_ild hB zd295_57 rfl rfl ?_
          refine zv_addw hB zd295_58 ?_
          refine zv_ald hB zd295_59 rfl rfl rfl ?_
          refine zv_getr hB zd295_60 rfl ?_
          refine zv_con hB zd295_63 rfl ?_
          refine zv_ild hB zd295_65 rfl rfl ?_
          refine zv_addw hB zd295_66 ?_
          obtain ⟨c6, h⟩ := zi_if h
          refine zv_iald hB zd295_67 rfl rfl (zi_ix_ok c6).1 (zi_ix_ok c6).2 (fun _ _ => ?_)
          refine zv_ald hB zd295_68 rfl rfl rfl ?_
          refine zv_getr hB zd295_69 rfl ?_
          refine zv_con hB zd295_72 rfl ?_
          refine zv_ild hB zd295_74 rfl rfl ?_
          refine zv_addw hB zd295_75 ?_
          obtain ⟨c7, h⟩ := zi_if h
          refine zv_iald hB zd295_76 rfl rfl (zi_ix_ok c7).1 (zi_ix_ok c7).2 (fun _ _ => ?_)
          refine zv_addw hB zd295_77 ?_
          refine zv_con hB zd295_78 rfl ?_
          obtain ⟨r8, hr8, h⟩ := zi_bind h
          refine zv_cs hB (zv_emq (va2 := [.inl (zi_w (((zv_up g0 (zi_w (0 + x1)) (zi_rem (zi_w ((zi_w ((g0 (zi_w (0 + x1))) + (g0 (zi_w (72 + x1))))) + 24)) 24)) (zi_w (24 + x1))) + ((zv_up g0 (zi_w (0 + x1)) (zi_rem (zi_w ((zi_w ((g0 (zi_w (0 + x1))) + (g0 (zi_w (72 + x1))))) + 24)) 24)) (zi_w (96 + x1))))), .inl 11]) (F := []) (F' := []) (G := [(zv_up g0 (zi_w (0 + x1)) (zi_rem (zi_w ((zi_w ((g0 (zi_w (0 + x1))) + (g0 (zi_w (72 + x1))))) + 24)) 24))]) (G' := [(zv_up g0 (zi_w (0 + x1)) (zi_rem (zi_w ((zi_w ((g0 (zi_w (0 + x1))) + (g0 (zi_w (72 + x1))))) + 24)) 24))]) (ρ := []) (φ := []) (ψ := []) [] [none] zyw_M_held zyw_M_walks zye_M_walks (by decide +kernel) (zt_M_held hr8) trivial trivial rfl rfl rfl rfl rfl rfl rfl) zd295_80 zxt296 rfl (by decide) (by decide) rfl ?_
          refine zv_iast hB zd295_83 rfl rfl (zi_ix_ok c6).1 (zi_ix_ok c6).2 ?_
          refine zv_iincw hB zd295_84 rfl rfl ?_
          refine zv_goto hB zd295_87 rfl ?_
          exact ih _ _ q h hK
        · rw [if_pos hc3] at h
          refine zv_goto hB zd295_16 rfl ?_
          refine zv_iincw hB zd295_84 rfl rfl ?_
          refine zv_goto hB zd295_87 rfl ?_
          exact ih _ _ q h hK
  unfold zf_M_walks at h
  refine zv_con hB zd295_0 rfl ?_
  refine zv_ist hB zd295_1 rfl rfl rfl ?_
  obtain ⟨q9, hq9, h⟩ := zi_bind h
  refine l0 _ _ _ q9 hq9 ?_
  show good 90 [.inr 1000, .inr 1000] [] [] [q9]
  have hw := Option.some.inj h
  subst hw
  exact hvret _ _ _ _ zd295_90 trivial ⟨rfl, rfl, rfl⟩
/-! M_passes ()V -/
-- names: 0 StarTalesModel('arg', 0), 1 (0, 422)(0, 12, 0)
-- fields: ; arrays: g0 = 1; out: [('g', 0)]
abbrev zy_M_passes : zNL := (2, [(0, 12)], [], [(0, 12, 0, 1)], [(1, 0, 422, 0)])
theorem zyw_M_passes : zv_wf zy_M_passes = true := by decide +kernel
theorem zye_M_passes : zv_ek2 zy_M_passes = true := by decide +kernel
def zf_M_passes (g0 : (Int → Int)) : Option ((Int → Int)) := if ((zv_up g0 128 (zi_w ((g0 128) + 1))) 128) < 24 then (some (zv_up g0 128 (zi_w ((g0 128) + 1)))) else ((zf_M_walks (zv_up (zv_up (zv_up g0 128 (zi_w ((g0 128) + 1))) 128 0) 129 (zi_w (((zv_up (zv_up g0 128 (zi_w ((g0 128) + 1))) 128 0) 129) + 1)))).bind fun r2 => (some r2))
theorem zd294_0 : decode zxm294.2.1 0 = .ok (.aload_n 0, 1) := by decide +kernel
theorem zd294_1 : decode zxm294.2.1 1 = .ok (.getfield 7, 3) := by decide +kernel
theorem zd294_4 : decode zxm294.2.1 4 = .ok (.sipush 128, 3) := by decide +kernel
theorem zd294_7 : decode zxm294.2.1 7 = .ok (.aload_n 0, 1) := by decide +kernel
theorem zd294_8 : decode zxm294.2.1 8 = .ok (.getfield 7, 3) := by decide +kernel
theorem zd294_11 : decode zxm294.2.1 11 = .ok (.sipush 128, 3) := by decide +kernel
theorem zd294_14 : decode zxm294.2.1 14 = .ok (.iaload, 1) := by decide +kernel
theorem zd294_15 : decode zxm294.2.1 15 = .ok (.iconst 1, 1) := by decide +kernel
theorem zd294_16 : decode zxm294.2.1 16 = .ok (.iadd, 1) := by decide +kernel
theorem zd294_17 : decode zxm294.2.1 17 = .ok (.iastore, 1) := by decide +kernel
theorem zd294_18 : decode zxm294.2.1 18 = .ok (.aload_n 0, 1) := by decide +kernel
theorem zd294_19 : decode zxm294.2.1 19 = .ok (.getfield 7, 3) := by decide +kernel
theorem zd294_22 : decode zxm294.2.1 22 = .ok (.sipush 128, 3) := by decide +kernel
theorem zd294_25 : decode zxm294.2.1 25 = .ok (.iaload, 1) := by decide +kernel
theorem zd294_26 : decode zxm294.2.1 26 = .ok (.bipush 24, 2) := by decide +kernel
theorem zd294_28 : decode zxm294.2.1 28 = .ok (.if_icmp .ge 4, 3) := by decide +kernel
theorem zd294_31 : decode zxm294.2.1 31 = .ok (.return_, 1) := by decide +kernel
theorem zd294_32 : decode zxm294.2.1 32 = .ok (.aload_n 0, 1) := by decide +kernel
theorem zd294_33 : decode zxm294.2.1 33 = .ok (.getfield 7, 3) := by decide +kernel
theorem zd294_36 : decode zxm294.2.1 36 = .ok (.sipush 128, 3) := by decide +kernel
theorem zd294_39 : decode zxm294.2.1 39 = .ok (.iconst 0, 1) := by decide +kernel
theorem zd294_40 : decode zxm294.2.1 40 = .ok (.iastore, 1) := by decide +kernel
theorem zd294_41 : decode zxm294.2.1 41 = .ok (.aload_n 0, 1) := by decide +kernel
theorem zd294_42 : decode zxm294.2.1 42 = .ok (.getfield 7, 3) := by decide +kernel
theorem zd294_45 : decode zxm294.2.1 45 = .ok (.sipush 129, 3) := by decide +kernel
theorem zd294_48 : decode zxm294.2.1 48 = .ok (.aload_n 0, 1) := by decide +kernel
theorem zd294_49 : decode zxm294.2.1 49 = .ok (.getfield 7, 3) := by decide +kernel
theorem zd294_52 : decode zxm294.2.1 52 = .ok (.sipush 129, 3) := by decide +kernel
theorem zd294_55 : decode zxm294.2.1 55 = .ok (.iaload, 1) := by decide +kernel
theorem zd294_56 : decode zxm294.2.1 56 = .ok (.iconst 1, 1) := by decide +kernel
theorem zd294_57 : decode zxm294.2.1 57 = .ok (.iadd, 1) := by decide +kernel
theorem zd294_58 : decode zxm294.2.1 58 = .ok (.iastore, 1) := by decide +kernel
theorem zd294_59 : decode zxm294.2.1 59 = .ok (.aload_n 0, 1) := by decide +kernel
theorem zd294_60 : decode zxm294.2.1 60 = .ok (.invokevirtual 414, 3) := by decide +kernel
theorem zd294_63 : decode zxm294.2.1 63 = .ok (.return_, 1) := by decide +kernel
theorem zt_M_passes {g0 : (Int → Int)} {o : (Int → Int)} (h : zf_M_passes g0 = some o) : zv_Fn z_TB z_cl z_KX zy_M_passes zxm294 (3, 180) [.inr 0] [] [g0] none [] [o] := zv_meth (K := (z_KF13, z_KC13, z_KL13, z_KT13, [], [], [], none)) (FT := z_FT) (MT := z_MT) (n := 1) zxp294 (z_ks13 _ (fun _ h => List.mem_cons_of_mem _ h) _ _ _ _ (fun j r h _ => by cases h)) (fun _ _ => zs_KX_p) zyw_M_passes (fun va F G h => by obtain ⟨rfl, _⟩ := h; rfl) (fun va F G h => by obtain ⟨rfl, _⟩ := h; rfl) rfl fun good va F G hB hret hvret hP => by
  obtain ⟨rfl, rfl, rfl⟩ := hP
  unfold zf_M_passes at h
  refine zv_ald hB zd294_0 rfl rfl rfl ?_
  refine zv_getr hB zd294_1 rfl ?_
  refine zv_con hB zd294_4 rfl ?_
  refine zv_ald hB zd294_7 rfl rfl rfl ?_
  refine zv_getr hB zd294_8 rfl ?_
  refine zv_con hB zd294_11 rfl ?_
  refine zv_iald hB zd294_14 rfl rfl (by decide) (by decide) (fun _ _ => ?_)
  refine zv_con hB zd294_15 rfl ?_
  refine zv_addw hB zd294_16 ?_
  refine zv_iast hB zd294_17 rfl rfl (by decide) (by decide) ?_
  refine zv_ald hB zd294_18 rfl rfl rfl ?_
  refine zv_getr hB zd294_19 rfl ?_
  refine zv_con hB zd294_22 rfl ?_
  refine zv_iald hB zd294_25 rfl rfl (by decide) (by decide) (fun _ _ => ?_)
  refine zv_con hB zd294_26 rfl ?_
  refine zv_cge hB zd294_28 rfl (fun hc1 => ?_) (fun hc1 => ?_)
  · rw [if_neg (Int.not_lt.mpr hc1)] at h
    refine zv_ald hB zd294_32 rfl rfl rfl ?_
    refine zv_getr hB zd294_33 rfl ?_
    refine zv_con hB zd294_36 rfl ?_
    refine zv_con hB zd294_39 rfl ?_
    refine zv_iast hB zd294_40 rfl rfl (by decide) (by decide) ?_
    refine zv_ald hB zd294_41 rfl rfl rfl ?_
    refine zv_getr hB zd294_42 rfl ?_
    refine zv_con hB zd294_45 rfl ?_
    refine zv_ald hB zd294_48 rfl rfl rfl ?_
    refine zv_getr hB zd294_49 rfl ?_
    refine zv_con hB zd294_52 rfl ?_
    refine zv_iald hB zd294_55 rfl rfl (by decide) (by decide) (fun _ _ => ?_)
    refine zv_con hB zd294_56 rfl ?_
    refine zv_addw hB zd294_57 ?_
    refine zv_iast hB zd294_58 rfl rfl (by decide) (by decide) ?_
    refine zv_ald hB zd294_59 rfl rfl rfl ?_
    obtain ⟨r2, hr2, h⟩ := zi_bind h
    refine zv_cv hB (zv_emq (va2 := [.inr 0]) (F := []) (F' := []) (G := [(zv_up (zv_up (zv_up g0 128 (zi_w ((g0 128) + 1))) 128 0) 129 (zi_w (((zv_up (zv_up g0 128 (zi_w ((g0 128) + 1))) 128 0) 129) + 1)))]) (G' := [r2]) (ρ := [0, 1]) (φ := []) (ψ := [0]) [] [some 0] zyw_M_walks zyw_M_passes zye_M_passes (by decide +kernel) (zt_M_walks hr2) trivial ⟨rfl, trivial⟩ rfl rfl rfl rfl rfl rfl rfl) zd294_60 zxt295 rfl (by decide) (by decide) rfl ?_
    have hw := Option.some.inj h
    subst hw
    exact hvret _ _ _ _ zd294_63 trivial ⟨rfl, rfl, rfl⟩
  · rw [if_pos hc1] at h
    have hw := Option.some.inj h
    subst hw
    exact hvret _ _ _ _ zd294_31 trivial ⟨rfl, rfl, rfl⟩
/-! M_drawsClouds ()V -/
-- names: 0 StarTalesModel('arg', 0), 1 (0, 422)(0, 12, 0), 2 (0, 13)(0, 12, 26), 3 (0, 14)(0, 12, 21), 4 (0, 14)(0, 12, 23), 5 (0, 14)(0, 12, 24), 6 (0, 220)(0, 12, 20), 7 (0, 220)(0, 12, 25), 8 (0, 14)(0, 12, 22)
-- fields: f0 = 0.clauses_; arrays: g0 = 1, g1 = 2, g2 = 3, g3 = 4, g4 = 5, g5 = 6, g6 = 7, g7 = 8; out: [('g', 0), ('g', 1), ('g', 6)]
abbrev zy_M_drawsClouds : zNL := (9, [(0, 12)], [(0, 12, 13, 0)], [(0, 12, 0, 1), (0, 12, 26, 2), (0, 12, 21, 3), (0, 12, 23, 4), (0, 12, 24, 5), (0, 12, 20, 6), (0, 12, 25, 7), (0, 12, 22, 8)], [(1, 0, 422, 0), (2, 0, 13, 1), (3, 0, 14, 2), (4, 0, 14, 3), (5, 0, 14, 4), (6, 0, 220, 5), (7, 0, 220, 6), (8, 0, 14, 7)])
theorem zyw_M_drawsClouds : zv_wf zy_M_drawsClouds = true := by decide +kernel
theorem zye_M_drawsClouds : zv_ek2 zy_M_drawsClouds = true := by decide +kernel
def zf_M_drawsClouds_l0_b (f0 : Int) (g2 : (Int → Int)) (g3 : (Int → Int)) (g4 : (Int → Int)) (g5 : (Int → Int)) (g7 : (Int → Int)) (rec : Int → (Int → Int) → (Int → Int) → (Int → Int) → Option ((Int → Int) × (Int → Int) × (Int → Int))) (x1 : Int) (g0 : (Int → Int)) (g1 : (Int → Int)) (g6 : (Int → Int)) : Option ((Int → Int) × (Int → Int) × (Int → Int)) := if x1 < 24 then ((zf_M_feels g1 (zv_up g0 133 (zi_rem (zi_w ((zi_w (25173 * (g0 133))) + 13849)) 65536))).bind fun r2 => ((zf_M_byLaw 113 10 f0 g2 g3 g4 g5 g6 (zv_up r2 5 x1) g7).bind fun r3 => (if (zi_rem ((zv_up g0 133 (zi_rem (zi_w ((zi_w (25173 * (g0 133))) + 13849)) 65536)) 133) 10) < r3.1 then (rec (zi_w (x1 + 1)) (zv_up (zv_up g0 133 (zi_rem (zi_w ((zi_w (25173 * (g0 133))) + 13849)) 65536)) 130 (zi_or ((zv_up g0 133 (zi_rem (zi_w ((zi_w (25173 * (g0 133))) + 13849)) 65536)) 130) (zi_shl 1 x1))) (zv_up r2 5 x1) r3.2) else (rec (zi_w (x1 + 1)) (zv_up g0 133 (zi_rem (zi_w ((zi_w (25173 * (g0 133))) + 13849)) 65536)) (zv_up r2 5 x1) r3.2)))) else (some (g0, g1, g6))
def zf_M_drawsClouds_l0 (f0 : Int) (g2 : (Int → Int)) (g3 : (Int → Int)) (g4 : (Int → Int)) (g5 : (Int → Int)) (g7 : (Int → Int)) : Nat → Int → (Int → Int) → (Int → Int) → (Int → Int) → Option ((Int → Int) × (Int → Int) × (Int → Int))
  | 0, _, _, _, _ => none
  | n + 1, x1, g0, g1, g6 => zf_M_drawsClouds_l0_b f0 g2 g3 g4 g5 g7 (zf_M_drawsClouds_l0 f0 g2 g3 g4 g5 g7 n) x1 g0 g1 g6
def zf_M_drawsClouds (f0 : Int) (g0 : (Int → Int)) (g1 : (Int → Int)) (g2 : (Int → Int)) (g3 : (Int → Int)) (g4 : (Int → Int)) (g5 : (Int → Int)) (g6 : (Int → Int)) (g7 : (Int → Int)) : Option ((Int → Int) × (Int → Int) × (Int → Int)) := (zf_M_drawsClouds_l0 f0 g2 g3 g4 g5 g7 zi_fu 0 (zv_up g0 130 0) g1 g6).bind fun q5 => (some (q5.1, q5.2.1, q5.2.2))
theorem zd291_0 : decode zxm291.2.1 0 = .ok (.aload_n 0, 1) := by decide +kernel
theorem zd291_1 : decode zxm291.2.1 1 = .ok (.getfield 7, 3) := by decide +kernel
theorem zd291_4 : decode zxm291.2.1 4 = .ok (.sipush 130, 3) := by decide +kernel
theorem zd291_7 : decode zxm291.2.1 7 = .ok (.iconst 0, 1) := by decide +kernel
theorem zd291_8 : decode zxm291.2.1 8 = .ok (.iastore, 1) := by decide +kernel
theorem zd291_9 : decode zxm291.2.1 9 = .ok (.iconst 0, 1) := by decide +kernel
theorem zd291_10 : decode zxm291.2.1 10 = .ok (.istore_n 1, 1) := by decide +kernel
theorem zd291_11 : decode zxm291.2.1 11 = .ok (.iload_n 1, 1) := by decide +kernel
theorem zd291_12 : decode zxm291.2.1 12 = .ok (.bipush 24, 2) := by decide +kernel
theorem zd291_14 : decode zxm291.2.1 14 = .ok (.if_icmp .ge 90, 3) := by decide +kernel
theorem zd291_17 : decode zxm291.2.1 17 = .ok (.aload_n 0, 1) := by decide +kernel
theorem zd291_18 : decode zxm291.2.1 18 = .ok (.getfield 7, 3) := by decide +kernel
theorem zd291_21 : decode zxm291.2.1 21 = .ok (.sipush 133, 3) := by decide +kernel
theorem zd291_24 : decode zxm291.2.1 24 = .ok (.sipush 25173, 3) := by decide +kernel
theorem zd291_27 : decode zxm291.2.1 27 = .ok (.aload_n 0, 1) := by decide +kernel
theorem zd291_28 : decode zxm291.2.1 28 = .ok (.getfield 7, 3) := by decide +kernel
theorem zd291_31 : decode zxm291.2.1 31 = .ok (.sipush 133, 3) := by decide +kernel
theorem zd291_34 : decode zxm291.2.1 34 = .ok (.iaload, 1) := by decide +kernel
theorem zd291_35 : decode zxm291.2.1 35 = .ok (.imul, 1) := by decide +kernel
theorem zd291_36 : decode zxm291.2.1 36 = .ok (.sipush 13849, 3) := by decide +kernel
theorem zd291_39 : decode zxm291.2.1 39 = .ok (.iadd, 1) := by decide +kernel
theorem zd291_40 : decode zxm291.2.1 40 = .ok (.ldc_w 417, 3) := by decide +kernel
theorem zd291_43 : decode zxm291.2.1 43 = .ok (.irem, 1) := by decide +kernel
theorem zd291_44 : decode zxm291.2.1 44 = .ok (.iastore, 1) := by decide +kernel
theorem zd291_45 : decode zxm291.2.1 45 = .ok (.aload_n 0, 1) := by decide +kernel
theorem zd291_46 : decode zxm291.2.1 46 = .ok (.invokevirtual 278, 3) := by decide +kernel
theorem zd291_49 : decode zxm291.2.1 49 = .ok (.aload_n 0, 1) := by decide +kernel
theorem zd291_50 : decode zxm291.2.1 50 = .ok (.getfield 59, 3) := by decide +kernel
theorem zd291_53 : decode zxm291.2.1 53 = .ok (.iconst 5, 1) := by decide +kernel
theorem zd291_54 : decode zxm291.2.1 54 = .ok (.iload_n 1, 1) := by decide +kernel
theorem zd291_55 : decode zxm291.2.1 55 = .ok (.iastore, 1) := by decide +kernel
theorem zd291_56 : decode zxm291.2.1 56 = .ok (.aload_n 0, 1) := by decide +kernel
theorem zd291_57 : decode zxm291.2.1 57 = .ok (.getfield 7, 3) := by decide +kernel
theorem zd291_60 : decode zxm291.2.1 60 = .ok (.sipush 133, 3) := by decide +kernel
theorem zd291_63 : decode zxm291.2.1 63 = .ok (.iaload, 1) := by decide +kernel
theorem zd291_64 : decode zxm291.2.1 64 = .ok (.bipush 10, 2) := by decide +kernel
theorem zd291_66 : decode zxm291.2.1 66 = .ok (.irem, 1) := by decide +kernel
theorem zd291_67 : decode zxm291.2.1 67 = .ok (.aload_n 0, 1) := by decide +kernel
theorem zd291_68 : decode zxm291.2.1 68 = .ok (.bipush 113, 2) := by decide +kernel
theorem zd291_70 : decode zxm291.2.1 70 = .ok (.bipush 10, 2) := by decide +kernel
theorem zd291_72 : decode zxm291.2.1 72 = .ok (.invokevirtual 408, 3) := by decide +kernel
theorem zd291_75 : decode zxm291.2.1 75 = .ok (.if_icmp .ge 23, 3) := by decide +kernel
theorem zd291_78 : decode zxm291.2.1 78 = .ok (.aload_n 0, 1) := by decide +kernel
theorem zd291_79 : decode zxm291.2.1 79 = .ok (.getfield 7, 3) := by decide +kernel
theorem zd291_82 : decode zxm291.2.1 82 = .ok (.sipush 130, 3) := by decide +kernel
theorem zd291_85 : decode zxm291.2.1 85 = .ok (.aload_n 0, 1) := by decide +kernel
theorem zd291_86 : decode zxm291.2.1 86 = .ok (.getfield 7, 3) := by decide +kernel
theorem zd291_89 : decode zxm291.2.1 89 = .ok (.sipush 130, 3) := by decide +kernel
theorem zd291_92 : decode zxm291.2.1 92 = .ok (.iaload, 1) := by decide +kernel
theorem zd291_93 : decode zxm291.2.1 93 = .ok (.iconst 1, 1) := by decide +kernel
theorem zd291_94 : decode zxm291.2.1 94 = .ok (.iload_n 1, 1) := by decide +kernel
theorem zd291_95 : decode zxm291.2.1 95 = .ok (.ishl, 1) := by decide +kernel
theorem zd291_96 : decode zxm291.2.1 96 = .ok (.ior, 1) := by decide +kernel
theorem zd291_97 : decode zxm291.2.1 97 = .ok (.iastore, 1) := by decide +kernel
theorem zd291_98 : decode zxm291.2.1 98 = .ok (.iinc 1 1, 3) := by decide +kernel
theorem zd291_101 : decode zxm291.2.1 101 = .ok (.goto (-90), 3) := by decide +kernel
theorem zd291_104 : decode zxm291.2.1 104 = .ok (.return_, 1) := by decide +kernel
theorem zt_M_drawsClouds {f0 : Int} {g0 : (Int → Int)} {g1 : (Int → Int)} {g2 : (Int → Int)} {g3 : (Int → Int)} {g4 : (Int → Int)} {g5 : (Int → Int)} {g6 : (Int → Int)} {g7 : (Int → Int)} {o : (Int → Int) × (Int → Int) × (Int → Int)} (h : zf_M_drawsClouds f0 g0 g1 g2 g3 g4 g5 g6 g7 = some o) : zv_Fn z_TB z_cl z_KX zy_M_drawsClouds zxm291 (3, 180) [.inr 0] [.inl f0] [g0, g1, g2, g3, g4, g5, g6, g7] none [.inl f0] [o.1, o.2.1, g2, g3, g4, g5, o.2.2, g7] := zv_meth (K := (z_KF13, z_KC13, z_KL13, z_KT13, [], [], [], none)) (FT := z_FT) (MT := z_MT) (n := 1) zxp291 (z_ks13 _ (fun _ h => List.mem_cons_of_mem _ h) _ _ _ _ (fun j r h _ => by cases h)) (fun _ _ => zs_KX_p) zyw_M_drawsClouds (fun va F G h => by obtain ⟨rfl, _⟩ := h; rfl) (fun va F G h => by obtain ⟨rfl, _⟩ := h; rfl) rfl fun good va F G hB hret hvret hP => by
  obtain ⟨rfl, rfl, rfl⟩ := hP
  have l0 : ∀ (n : Nat) (x1 : Int) (g0 : (Int → Int)) (g1 : (Int → Int)) (g6 : (Int → Int)) (q : (Int → Int) × (Int → Int) × (Int → Int)), zf_M_drawsClouds_l0 f0 g2 g3 g4 g5 g7 n x1 g0 g1 g6 = some q → (good 104 [.inr 1000, .inr 1000] [] [.inl f0] [q.1, q.2.1, g2, g3, g4, g5, q.2.2, g7]) → good 11 [.inr 0, .inl x1] [] [.inl f0] [g0, g1, g2, g3, g4, g5, g6, g7] := by
    intro n
    induction n with
    | zero => intro x1 g0 g1 g6 q h; exact absurd (show none = some q from h) (fun h => by cases h)
    | succ n ih =>
      intro x1 g0 g1 g6 q h hK
      replace h : zf_M_drawsClouds_l0_b f0 g2 g3 g4 g5 g7 (zf_M_drawsClouds_l0 f0 g2 g3 g4 g5 g7 n) x1 g0 g1 g6 = some q := h
      unfold zf_M_drawsClouds_l0_b at h
      refine zv_ild hB zd291_11 rfl rfl ?_
      refine zv_con hB zd291_12 rfl ?_
      refine zv_cge hB zd291_14 rfl (fun hc1 => ?_) (fun hc1 => ?_)
      · rw [if_neg (Int.not_lt.mpr hc1)] at h
        have hq := Option.some.inj h
        subst hq
        refine zv_wk hB (L' := [.inr 1000, .inr 1000]) (F' := [.inl f0]) ⟨fun (h : zv_is (.inr 1000)) => (Nat.lt_irrefl 1000 h).elim, fun (h : zv_is (.inr 1000)) => (Nat.lt_irrefl 1000 h).elim, trivial⟩ ⟨fun _ => rfl, trivial⟩ ?_
        exact hK
      · rw [if_pos hc1] at h
        refine zv_ald hB zd291_17 rfl rfl rfl ?_
        refine zv_getr hB zd291_18 rfl ?_
        refine zv_con hB zd291_21 rfl ?_
        refine zv_con hB zd291_24 rfl ?_
        refine zv_ald hB zd291_27 rfl rfl rfl ?_
        refine zv_getr hB zd291_28 rfl ?_
        refine zv_con hB zd291_31 rfl ?_
        refine zv_iald hB zd291_34 rfl rfl (by decide) (by decide) (fun _ _ => ?_)
        refine zv_mulw hB zd291_35 ?_
        refine zv_con hB zd291_36 rfl ?_
        refine zv_addw hB zd291_39 ?_
        refine zv_con (n := 65536) hB zd291_40 (by decide +kernel) ?_
        refine zv_remw hB zd291_43 (by decide) ?_
        refine zv_iast hB zd291_44 rfl rfl (by decide) (by decide) ?_
        refine zv_ald hB zd291_45 rfl rfl rfl ?_
        obtain ⟨r2, hr2, h⟩ := zi_bind h
        refine zv_cv hB (zv_emq (va2 := [.inr 0]) (F := [.inl f0]) (F' := [.inl f0]) (G := [(zv_up g0 133 (zi_rem (zi_w ((zi_w (25173 * (g0 133))) + 13849)) 65536)), g1, g2, g3, g4, g5, g6, g7]) (G' := [(zv_up g0 133 (zi_rem (zi_w ((zi_w (25173 * (g0 133))) + 13849)) 65536)), r2, g2, g3, g4, g5, g6, g7]) (ρ := [0, 2, 1]) (φ := []) (ψ := [1, 0]) [none] [some 1, some 0, none, none, none, none, none, none] zyw_M_feels zyw_M_drawsClouds zye_M_drawsClouds (by decide +kernel) (zt_M_feels hr2) trivial ⟨rfl, rfl, trivial⟩ rfl rfl rfl rfl rfl rfl rfl) zd291_46 zxt246 rfl (by decide) (by decide) rfl ?_
        refine zv_ald hB zd291_49 rfl rfl rfl ?_
        refine zv_getr hB zd291_50 rfl ?_
        refine zv_con hB zd291_53 rfl ?_
        refine zv_ild hB zd291_54 rfl rfl ?_
        refine zv_iast hB zd291_55 rfl rfl (by decide) (by decide) ?_
        refine zv_ald hB zd291_56 rfl rfl rfl ?_
        refine zv_getr hB zd291_57 rfl ?_
        refine zv_con hB zd291_60 rfl ?_
        refine zv_iald hB zd291_63 rfl rfl (by decide) (by decide) (fun _ _ => ?_)
        refine zv_con hB zd291_64 rfl ?_
        refine zv_remw hB zd291_66 (by decide) ?_
        refine zv_ald hB zd291_67 rfl rfl rfl ?_
        refine zv_con hB zd291_68 rfl ?_
        refine zv_con hB zd291_70 rfl ?_
        obtain ⟨r3, hr3, h⟩ := zi_bind h
        refine zv_cv hB (zv_emq (va2 := [.inr 0, .inl 113, .inl 10]) (F := [.inl f0]) (F' := [.inl f0]) (G := [(zv_up g0 133 (zi_rem (zi_w ((zi_w (25173 * (g0 133))) + 13849)) 65536)), (zv_up r2 5 x1), g2, g3, g4, g5, g6, g7]) (G' := [(zv_up g0 133 (zi_rem (zi_w ((zi_w (25173 * (g0 133))) + 13849)) 65536)), (zv_up r2 5 x1), g2, g3, g4, g5, r3.2, g7]) (ρ := [0, 3, 4, 5, 6, 7, 2, 8]) (φ := [0]) (ψ := [2, 3, 4, 5, 6, 1, 7]) [some 0] [none, some 5, some 0, some 1, some 2, some 3, some 4, some 6] zyw_M_byLaw zyw_M_drawsClouds zye_M_drawsClouds (by decide +kernel) (zt_M_byLaw hr3) ⟨⟨_, rfl, fun _ => rfl⟩, trivial⟩ ⟨rfl, rfl, rfl, rfl, rfl, rfl, rfl, trivial⟩ rfl rfl rfl rfl rfl rfl rfl) zd291_72 zxt288 rfl (by decide) (by decide) rfl ?_
        refine zv_cge hB zd291_75 rfl (fun hc4 => ?_) (fun hc4 => ?_)
        · rw [if_neg (Int.not_lt.mpr hc4)] at h
          refine zv_iincw hB zd291_98 rfl rfl ?_
          refine zv_goto hB zd291_101 rfl ?_
          exact ih _ _ _ _ q h hK
        · rw [if_pos hc4] at h
          refine zv_ald hB zd291_78 rfl rfl rfl ?_
          refine zv_getr hB zd291_79 rfl ?_
          refine zv_con hB zd291_82 rfl ?_
          refine zv_ald hB zd291_85 rfl rfl rfl ?_
          refine zv_getr hB zd291_86 rfl ?_
          refine zv_con hB zd291_89 rfl ?_
          refine zv_iald hB zd291_92 rfl rfl (by decide) (by decide) (fun _ _ => ?_)
          refine zv_con hB zd291_93 rfl ?_
          refine zv_ild hB zd291_94 rfl rfl ?_
          refine zv_shlw hB zd291_95 ?_
          refine zv_orw hB zd291_96 ?_
          refine zv_iast hB zd291_97 rfl rfl (by decide) (by decide) ?_
          refine zv_iincw hB zd291_98 rfl rfl ?_
          refine zv_goto hB zd291_101 rfl ?_
          exact ih _ _ _ _ q h hK
  unfold zf_M_drawsClouds at h
  refine zv_ald hB zd291_0 rfl rfl rfl ?_
  refine zv_getr hB zd291_1 rfl ?_
  refine zv_con hB zd291_4 rfl ?_
  refine zv_con hB zd291_7 rfl ?_
  refine zv_iast hB zd291_8 rfl rfl (by decide) (by decide) ?_
  refine zv_con hB zd291_9 rfl ?_
  refine zv_ist hB zd291_10 rfl rfl rfl ?_
  obtain ⟨q5, hq5, h⟩ := zi_bind h
  refine l0 _ _ _ _ _ q5 hq5 ?_
  show good 104 [.inr 1000, .inr 1000] [] [.inl f0] [q5.1, q5.2.1, g2, g3, g4, g5, q5.2.2, g7]
  have hw := Option.some.inj h
  subst hw
  exact hvret _ _ _ _ zd291_104 trivial ⟨rfl, rfl, rfl⟩
/-! M_steers (IIZ)V -/
-- names: 0 StarTalesModel('arg', 0), 1 (0, 422)(0, 12, 0), 2 (0, 14)(0, 12, 21), 3 (0, 13)(0, 12, 26), 4 (0, 14)(0, 12, 23), 5 (0, 14)(0, 12, 24), 6 (0, 220)(0, 12, 20), 7 (0, 220)(0, 12, 25), 8 (0, 14)(0, 12, 22)
-- fields: f0 = 0.clauses_; arrays: g0 = 1, g1 = 2, g2 = 3, g3 = 4, g4 = 5, g5 = 6, g6 = 7, g7 = 8; out: [('g', 0), ('g', 2), ('g', 6)]
abbrev zy_M_steers : zNL := (9, [(0, 12)], [(0, 12, 13, 0)], [(0, 12, 0, 1), (0, 12, 21, 2), (0, 12, 26, 3), (0, 12, 23, 4), (0, 12, 24, 5), (0, 12, 20, 6), (0, 12, 25, 7), (0, 12, 22, 8)], [(1, 0, 422, 0), (2, 0, 14, 1), (3, 0, 13, 2), (4, 0, 14, 3), (5, 0, 14, 4), (6, 0, 220, 5), (7, 0, 220, 6), (8, 0, 14, 7)])
theorem zyw_M_steers : zv_wf zy_M_steers = true := by decide +kernel
theorem zye_M_steers : zv_ek2 zy_M_steers = true := by decide +kernel
def zf_M_steers (x1 : Int) (x2 : Int) (x3 : Int) (f0 : Int) (g0 : (Int → Int)) (g1 : (Int → Int)) (g2 : (Int → Int)) (g3 : (Int → Int)) (g4 : (Int → Int)) (g5 : (Int → Int)) (g6 : (Int → Int)) (g7 : (Int → Int)) : Option ((Int → Int) × (Int → Int) × (Int → Int)) := if x3 = 0 then (cond (zi_ix (zi_w (120 + x1)) 422) ((zf_M_steersFrom (g0 (zi_w (120 + x1))) x2 f0 g0 g1 g2 g3 g4 g5 g6).bind fun r3 => ((zf_M_passes (zv_up g0 (zi_w (120 + x1)) r3.1)).bind fun r4 => (some (r4, r3.2.1, r3.2.2)))) none) else ((zf_M_drawsClouds f0 g0 g2 g1 g3 g4 g5 g6 g7).bind fun r5 => (cond (zi_ix (zi_w (120 + x1)) 422) ((zf_M_steersFrom (r5.1 (zi_w (120 + x1))) x2 f0 r5.1 g1 r5.2.1 g3 g4 g5 r5.2.2).bind fun r7 => ((zf_M_passes (zv_up r5.1 (zi_w (120 + x1)) r7.1)).bind fun r8 => (some (r8, r7.2.1, r7.2.2)))) none))
theorem zd290_0 : decode zxm290.2.1 0 = .ok (.iload_n 3, 1) := by decide +kernel
theorem zd290_1 : decode zxm290.2.1 1 = .ok (.ifCond .eq 7, 3) := by decide +kernel
theorem zd290_4 : decode zxm290.2.1 4 = .ok (.aload_n 0, 1) := by decide +kernel
theorem zd290_5 : decode zxm290.2.1 5 = .ok (.invokevirtual 421, 3) := by decide +kernel
theorem zd290_8 : decode zxm290.2.1 8 = .ok (.aload_n 0, 1) := by decide +kernel
theorem zd290_9 : decode zxm290.2.1 9 = .ok (.getfield 7, 3) := by decide +kernel
theorem zd290_12 : decode zxm290.2.1 12 = .ok (.bipush 120, 2) := by decide +kernel
theorem zd290_14 : decode zxm290.2.1 14 = .ok (.iload_n 1, 1) := by decide +kernel
theorem zd290_15 : decode zxm290.2.1 15 = .ok (.iadd, 1) := by decide +kernel
theorem zd290_16 : decode zxm290.2.1 16 = .ok (.aload_n 0, 1) := by decide +kernel
theorem zd290_17 : decode zxm290.2.1 17 = .ok (.aload_n 0, 1) := by decide +kernel
theorem zd290_18 : decode zxm290.2.1 18 = .ok (.getfield 7, 3) := by decide +kernel
theorem zd290_21 : decode zxm290.2.1 21 = .ok (.bipush 120, 2) := by decide +kernel
theorem zd290_23 : decode zxm290.2.1 23 = .ok (.iload_n 1, 1) := by decide +kernel
theorem zd290_24 : decode zxm290.2.1 24 = .ok (.iadd, 1) := by decide +kernel
theorem zd290_25 : decode zxm290.2.1 25 = .ok (.iaload, 1) := by decide +kernel
theorem zd290_26 : decode zxm290.2.1 26 = .ok (.iload_n 2, 1) := by decide +kernel
theorem zd290_27 : decode zxm290.2.1 27 = .ok (.invokevirtual 424, 3) := by decide +kernel
theorem zd290_30 : decode zxm290.2.1 30 = .ok (.iastore, 1) := by decide +kernel
theorem zd290_31 : decode zxm290.2.1 31 = .ok (.aload_n 0, 1) := by decide +kernel
theorem zd290_32 : decode zxm290.2.1 32 = .ok (.invokevirtual 427, 3) := by decide +kernel
theorem zd290_35 : decode zxm290.2.1 35 = .ok (.return_, 1) := by decide +kernel
theorem zt_M_steers {x1 : Int} {x2 : Int} {x3 : Int} {f0 : Int} {g0 : (Int → Int)} {g1 : (Int → Int)} {g2 : (Int → Int)} {g3 : (Int → Int)} {g4 : (Int → Int)} {g5 : (Int → Int)} {g6 : (Int → Int)} {g7 : (Int → Int)} {o : (Int → Int) × (Int → Int) × (Int → Int)} (h : zf_M_steers x1 x2 x3 f0 g0 g1 g2 g3 g4 g5 g6 g7 = some o) : zv_Fn z_TB z_cl z_KX zy_M_steers zxm290 (5, 300) [.inr 0, .inl x1, .inl x2, .inl x3] [.inl f0] [g0, g1, g2, g3, g4, g5, g6, g7] none [.inl f0] [o.1, g1, o.2.1, g3, g4, g5, o.2.2, g7] := zv_meth (K := (z_KF13, z_KC13, z_KL13, z_KT13, [], [], [], none)) (FT := z_FT) (MT := z_MT) (n := 4) zxp290 (z_ks13 _ (fun _ h => List.mem_cons_of_mem _ h) _ _ _ _ (fun j r h _ => by cases h)) (fun _ _ => zs_KX_p) zyw_M_steers (fun va F G h => by obtain ⟨rfl, _⟩ := h; rfl) (fun va F G h => by obtain ⟨rfl, _⟩ := h; rfl) rfl fun good va F G hB hret hvret hP => by
  obtain ⟨rfl, rfl, rfl⟩ := hP
  unfold zf_M_steers at h
  refine zv_ild hB zd290_0 rfl rfl ?_
  refine zv_zeq hB zd290_1 rfl (fun hc1 => ?_) (fun hc1 => ?_)
  · rw [if_pos hc1] at h
    refine zv_ald hB zd290_8 rfl rfl rfl ?_
    refine zv_getr hB zd290_9 rfl ?_
    refine zv_con hB zd290_12 rfl ?_
    refine zv_ild hB zd290_14 rfl rfl ?_
    refine zv_addw hB zd290_15 ?_
    refine zv_ald hB zd290_16 rfl rfl rfl ?_
    refine zv_ald hB zd290_17 rfl rfl rfl ?_
    refine zv_getr hB zd290_18 rfl ?_
    refine zv_con hB zd290_21 rfl ?_
    refine zv_ild hB zd290_23 rfl rfl ?_
    refine zv_addw hB zd290_24 ?_
    obtain ⟨c2, h⟩ := zi_if h
    refine zv_iald hB zd290_25 rfl rfl (zi_ix_ok c2).1 (zi_ix_ok c2).2 (fun _ _ => ?_)
    refine zv_ild hB zd290_26 rfl rfl ?_
    obtain ⟨r3, hr3, h⟩ := zi_bind h
    refine zv_cv hB (zv_emq (va2 := [.inr 0, .inl (g0 (zi_w (120 + x1))), .inl x2]) (F := [.inl f0]) (F' := [.inl f0]) (G := [g0, g1, g2, g3, g4, g5, g6, g7]) (G' := [g0, g1, r3.2.1, g3, g4, g5, r3.2.2, g7]) (ρ := [0, 1, 2, 3, 4, 5, 6, 7]) (φ := [0]) (ψ := [0, 1, 2, 3, 4, 5, 6]) [some 0] [some 0, some 1, some 2, some 3, some 4, some 5, some 6, none] zyw_M_steersFrom zyw_M_steers zye_M_steers (by decide +kernel) (zt_M_steersFrom hr3) ⟨⟨_, rfl, fun _ => rfl⟩, trivial⟩ ⟨rfl, rfl, rfl, rfl, rfl, rfl, rfl, trivial⟩ rfl rfl rfl rfl rfl rfl rfl) zd290_27 zxt292 rfl (by decide) (by decide) rfl ?_
    refine zv_iast hB zd290_30 rfl rfl (zi_ix_ok c2).1 (zi_ix_ok c2).2 ?_
    refine zv_ald hB zd290_31 rfl rfl rfl ?_
    obtain ⟨r4, hr4, h⟩ := zi_bind h
    refine zv_cv hB (zv_emq (va2 := [.inr 0]) (F := [.inl f0]) (F' := [.inl f0]) (G := [(zv_up g0 (zi_w (120 + x1)) r3.1), g1, r3.2.1, g3, g4, g5, r3.2.2, g7]) (G' := [r4, g1, r3.2.1, g3, g4, g5, r3.2.2, g7]) (ρ := [0, 1]) (φ := []) (ψ := [0]) [none] [some 0, none, none, none, none, none, none, none] zyw_M_passes zyw_M_steers zye_M_steers (by decide +kernel) (zt_M_passes hr4) trivial ⟨rfl, trivial⟩ rfl rfl rfl rfl rfl rfl rfl) zd290_32 zxt294 rfl (by decide) (by decide) rfl ?_
    have hw := Option.some.inj h
    subst hw
    exact hvret _ _ _ _ zd290_35 trivial ⟨rfl, rfl, rfl⟩
  · rw [if_neg hc1] at h
    refine zv_ald hB zd290_4 rfl rfl rfl ?_
    obtain ⟨r5, hr5, h⟩ := zi_bind h
    refine zv_cv hB (zv_emq (va2 := [.inr 0]) (F := [.inl f0]) (F' := [.inl f0]) (G := [g0, g1, g2, g3, g4, g5, g6, g7]) (G' := [r5.1, g1, r5.2.1, g3, g4, g5, r5.2.2, g7]) (ρ := [0, 1, 3, 2, 4, 5, 6, 7, 8]) (φ := [0]) (ψ := [0, 2, 1, 3, 4, 5, 6, 7]) [some 0] [some 0, some 2, some 1, some 3, some 4, some 5, some 6, some 7] zyw_M_drawsClouds zyw_M_steers zye_M_steers (by decide +kernel) (zt_M_drawsClouds hr5) ⟨⟨_, rfl, fun _ => rfl⟩, trivial⟩ ⟨rfl, rfl, rfl, rfl, rfl, rfl, rfl, rfl, trivial⟩ rfl rfl rfl rfl rfl rfl rfl) zd290_5 zxt291 rfl (by decide) (by decide) rfl ?_
    refine zv_ald hB zd290_8 rfl rfl rfl ?_
    refine zv_getr hB zd290_9 rfl ?_
    refine zv_con hB zd290_12 rfl ?_
    refine zv_ild hB zd290_14 rfl rfl ?_
    refine zv_addw hB zd290_15 ?_
    refine zv_ald hB zd290_16 rfl rfl rfl ?_
    refine zv_ald hB zd290_17 rfl rfl rfl ?_
    refine zv_getr hB zd290_18 rfl ?_
    refine zv_con hB zd290_21 rfl ?_
    refine zv_ild hB zd290_23 rfl rfl ?_
    refine zv_addw hB zd290_24 ?_
    obtain ⟨c6, h⟩ := zi_if h
    refine zv_iald hB zd290_25 rfl rfl (zi_ix_ok c6).1 (zi_ix_ok c6).2 (fun _ _ => ?_)
    refine zv_ild hB zd290_26 rfl rfl ?_
    obtain ⟨r7, hr7, h⟩ := zi_bind h
    refine zv_cv hB (zv_emq (va2 := [.inr 0, .inl (r5.1 (zi_w (120 + x1))), .inl x2]) (F := [.inl f0]) (F' := [.inl f0]) (G := [r5.1, g1, r5.2.1, g3, g4, g5, r5.2.2, g7]) (G' := [r5.1, g1, r7.2.1, g3, g4, g5, r7.2.2, g7]) (ρ := [0, 1, 2, 3, 4, 5, 6, 7]) (φ := [0]) (ψ := [0, 1, 2, 3, 4, 5, 6]) [some 0] [some 0, some 1, some 2, some 3, some 4, some 5, some 6, none] zyw_M_steersFrom zyw_M_steers zye_M_steers (by decide +kernel) (zt_M_steersFrom hr7) ⟨⟨_, rfl, fun _ => rfl⟩, trivial⟩ ⟨rfl, rfl, rfl, rfl, rfl, rfl, rfl, trivial⟩ rfl rfl rfl rfl rfl rfl rfl) zd290_27 zxt292 rfl (by decide) (by decide) rfl ?_
    refine zv_iast hB zd290_30 rfl rfl (zi_ix_ok c6).1 (zi_ix_ok c6).2 ?_
    refine zv_ald hB zd290_31 rfl rfl rfl ?_
    obtain ⟨r8, hr8, h⟩ := zi_bind h
    refine zv_cv hB (zv_emq (va2 := [.inr 0]) (F := [.inl f0]) (F' := [.inl f0]) (G := [(zv_up r5.1 (zi_w (120 + x1)) r7.1), g1, r7.2.1, g3, g4, g5, r7.2.2, g7]) (G' := [r8, g1, r7.2.1, g3, g4, g5, r7.2.2, g7]) (ρ := [0, 1]) (φ := []) (ψ := [0]) [none] [some 0, none, none, none, none, none, none, none] zyw_M_passes zyw_M_steers zye_M_steers (by decide +kernel) (zt_M_passes hr8) trivial ⟨rfl, trivial⟩ rfl rfl rfl rfl rfl rfl rfl) zd290_32 zxt294 rfl (by decide) (by decide) rfl ?_
    have hw := Option.some.inj h
    subst hw
    exact hvret _ _ _ _ zd290_35 trivial ⟨rfl, rfl, rfl⟩
end
section
/-! Methods as functions, and that they do what these do. -/
/-! M_steered (IIIZ)I -/
-- names: 0 StarTalesModel('arg', 0), 1 (0, 422)(0, 12, 0), 2 (0, 14)(0, 12, 21), 3 (0, 13)(0, 12, 26), 4 (0, 14)(0, 12, 23), 5 (0, 14)(0, 12, 24), 6 (0, 220)(0, 12, 20), 7 (0, 220)(0, 12, 25), 8 (0, 14)(0, 12, 22)
-- fields: f0 = 0.clauses_; arrays: g0 = 1, g1 = 2, g2 = 3, g3 = 4, g4 = 5, g5 = 6, g6 = 7, g7 = 8; out: [('ret', None), ('g', 0), ('g', 2), ('g', 6)]
abbrev zy_M_steered : zNL := (9, [(0, 12)], [(0, 12, 13, 0)], [(0, 12, 0, 1), (0, 12, 21, 2), (0, 12, 26, 3), (0, 12, 23, 4), (0, 12, 24, 5), (0, 12, 20, 6), (0, 12, 25, 7), (0, 12, 22, 8)], [(1, 0, 422, 0), (2, 0, 14, 1), (3, 0, 13, 2), (4, 0, 14, 3), (5, 0, 14, 4), (6, 0, 220, 5), (7, 0, 220, 6), (8, 0, 14, 7)])
theorem zyw_M_steered : zv_wf zy_M_steered = true := by decide +kernel
theorem zye_M_steered : zv_ek2 zy_M_steered = true := by decide +kernel
def zf_M_steered_l0_b (x1 : Int) (x2 : Int) (x3 : Int) (x4 : Int) (f0 : Int) (g1 : (Int → Int)) (g3 : (Int → Int)) (g4 : (Int → Int)) (g5 : (Int → Int)) (g7 : (Int → Int)) (rec : Int → (Int → Int) → (Int → Int) → (Int → Int) → Option ((Int → Int) × (Int → Int) × (Int → Int))) (x5 : Int) (g0 : (Int → Int)) (g2 : (Int → Int)) (g6 : (Int → Int)) : Option ((Int → Int) × (Int → Int) × (Int → Int)) := if x5 < x3 then ((zf_M_steers x1 x2 x4 f0 g0 g1 g2 g3 g4 g5 g6 g7).bind fun r8 => (rec (zi_w (x5 + 1)) r8.1 r8.2.1 r8.2.2)) else (some (g0, g2, g6))
def zf_M_steered_l0 (x1 : Int) (x2 : Int) (x3 : Int) (x4 : Int) (f0 : Int) (g1 : (Int → Int)) (g3 : (Int → Int)) (g4 : (Int → Int)) (g5 : (Int → Int)) (g7 : (Int → Int)) : Nat → Int → (Int → Int) → (Int → Int) → (Int → Int) → Option ((Int → Int) × (Int → Int) × (Int → Int))
  | 0, _, _, _, _ => none
  | n + 1, x5, g0, g2, g6 => zf_M_steered_l0_b x1 x2 x3 x4 f0 g1 g3 g4 g5 g7 (zf_M_steered_l0 x1 x2 x3 x4 f0 g1 g3 g4 g5 g7 n) x5 g0 g2 g6
def zf_M_steered (x1 : Int) (x2 : Int) (x3 : Int) (x4 : Int) (f0 : Int) (g0 : (Int → Int)) (g1 : (Int → Int)) (g2 : (Int → Int)) (g3 : (Int → Int)) (g4 : (Int → Int)) (g5 : (Int → Int)) (g6 : (Int → Int)) (g7 : (Int → Int)) : Option (Int × (Int → Int) × (Int → Int) × (Int → Int)) := (zf_M_isShip x1 g0).bind fun r1 => (if r1 = 0 then (some ((-1), g0, g2, g6)) else ((zf_M_isTold x2 g0).bind fun r3 => (if r3 = 0 then (some ((-1), g0, g2, g6)) else ((zf_M_in x3 1 48).bind fun r5 => (if r5 = 0 then (some ((-1), g0, g2, g6)) else ((zf_M_steered_l0 x1 x2 x3 x4 f0 g1 g3 g4 g5 g7 zi_fu 0 g0 g2 g6).bind fun q9 => (cond (zi_ix (zi_w (120 + x1)) 422) (some ((q9.1 (zi_w (120 + x1))), q9.1, q9.2.1, q9.2.2)) none)))))))
theorem zd289_0 : decode zxm289.2.1 0 = .ok (.aload_n 0, 1) := by decide +kernel
theorem zd289_1 : decode zxm289.2.1 1 = .ok (.iload_n 1, 1) := by decide +kernel
theorem zd289_2 : decode zxm289.2.1 2 = .ok (.invokevirtual 162, 3) := by decide +kernel
theorem zd289_5 : decode zxm289.2.1 5 = .ok (.ifCond .eq 21, 3) := by decide +kernel
theorem zd289_8 : decode zxm289.2.1 8 = .ok (.aload_n 0, 1) := by decide +kernel
theorem zd289_9 : decode zxm289.2.1 9 = .ok (.iload_n 2, 1) := by decide +kernel
theorem zd289_10 : decode zxm289.2.1 10 = .ok (.invokevirtual 157, 3) := by decide +kernel
theorem zd289_13 : decode zxm289.2.1 13 = .ok (.ifCond .eq 13, 3) := by decide +kernel
theorem zd289_16 : decode zxm289.2.1 16 = .ok (.iload_n 3, 1) := by decide +kernel
theorem zd289_17 : decode zxm289.2.1 17 = .ok (.iconst 1, 1) := by decide +kernel
theorem zd289_18 : decode zxm289.2.1 18 = .ok (.bipush 48, 2) := by decide +kernel
theorem zd289_20 : decode zxm289.2.1 20 = .ok (.invokestatic 150, 3) := by decide +kernel
theorem zd289_23 : decode zxm289.2.1 23 = .ok (.ifCond .ne 5, 3) := by decide +kernel
theorem zd289_26 : decode zxm289.2.1 26 = .ok (.iconst (-1), 1) := by decide +kernel
theorem zd289_27 : decode zxm289.2.1 27 = .ok (.ireturn, 1) := by decide +kernel
theorem zd289_28 : decode zxm289.2.1 28 = .ok (.iconst 0, 1) := by decide +kernel
theorem zd289_29 : decode zxm289.2.1 29 = .ok (.istore 5, 2) := by decide +kernel
theorem zd289_31 : decode zxm289.2.1 31 = .ok (.iload 5, 2) := by decide +kernel
theorem zd289_33 : decode zxm289.2.1 33 = .ok (.iload_n 3, 1) := by decide +kernel
theorem zd289_34 : decode zxm289.2.1 34 = .ok (.if_icmp .ge 17, 3) := by decide +kernel
theorem zd289_37 : decode zxm289.2.1 37 = .ok (.aload_n 0, 1) := by decide +kernel
theorem zd289_38 : decode zxm289.2.1 38 = .ok (.iload_n 1, 1) := by decide +kernel
theorem zd289_39 : decode zxm289.2.1 39 = .ok (.iload_n 2, 1) := by decide +kernel
theorem zd289_40 : decode zxm289.2.1 40 = .ok (.iload 4, 2) := by decide +kernel
theorem zd289_42 : decode zxm289.2.1 42 = .ok (.invokevirtual 430, 3) := by decide +kernel
theorem zd289_45 : decode zxm289.2.1 45 = .ok (.iinc 5 1, 3) := by decide +kernel
theorem zd289_48 : decode zxm289.2.1 48 = .ok (.goto (-17), 3) := by decide +kernel
theorem zd289_51 : decode zxm289.2.1 51 = .ok (.aload_n 0, 1) := by decide +kernel
theorem zd289_52 : decode zxm289.2.1 52 = .ok (.getfield 7, 3) := by decide +kernel
theorem zd289_55 : decode zxm289.2.1 55 = .ok (.bipush 120, 2) := by decide +kernel
theorem zd289_57 : decode zxm289.2.1 57 = .ok (.iload_n 1, 1) := by decide +kernel
theorem zd289_58 : decode zxm289.2.1 58 = .ok (.iadd, 1) := by decide +kernel
theorem zd289_59 : decode zxm289.2.1 59 = .ok (.iaload, 1) := by decide +kernel
theorem zd289_60 : decode zxm289.2.1 60 = .ok (.ireturn, 1) := by decide +kernel
theorem zt_M_steered {x1 : Int} {x2 : Int} {x3 : Int} {x4 : Int} {f0 : Int} {g0 : (Int → Int)} {g1 : (Int → Int)} {g2 : (Int → Int)} {g3 : (Int → Int)} {g4 : (Int → Int)} {g5 : (Int → Int)} {g6 : (Int → Int)} {g7 : (Int → Int)} {o : Int × (Int → Int) × (Int → Int) × (Int → Int)} (h : zf_M_steered x1 x2 x3 x4 f0 g0 g1 g2 g3 g4 g5 g6 g7 = some o) : zv_Fn z_TB z_cl z_KX zy_M_steered zxm289 (6, 360) [.inr 0, .inl x1, .inl x2, .inl x3, .inl x4] [.inl f0] [g0, g1, g2, g3, g4, g5, g6, g7] (some o.1) [.inl f0] [o.2.1, g1, o.2.2.1, g3, g4, g5, o.2.2.2, g7] := zv_meth (K := (z_KF13, z_KC13, z_KL13, z_KT13, [], [], [], none)) (FT := z_FT) (MT := z_MT) (n := 5) zxp289 (z_ks13 _ (fun _ h => List.mem_cons_of_mem _ h) _ _ _ _ (fun j r h _ => by cases h)) (fun _ _ => zs_KX_p) zyw_M_steered (fun va F G h => by obtain ⟨rfl, _⟩ := h; rfl) (fun va F G h => by obtain ⟨rfl, _⟩ := h; rfl) rfl fun good va F G hB hret hvret hP => by
  obtain ⟨rfl, rfl, rfl⟩ := hP
  have l0 : ∀ (n : Nat) (x1 : Int) (x2 : Int) (x3 : Int) (x4 : Int) (x5 : Int) (g0 : (Int → Int)) (g2 : (Int → Int)) (g6 : (Int → Int)) (q : (Int → Int) × (Int → Int) × (Int → Int)), zf_M_steered_l0 x1 x2 x3 x4 f0 g1 g3 g4 g5 g7 n x5 g0 g2 g6 = some q → (good 51 [.inr 0, .inl x1, .inr 1000, .inr 1000, .inr 1000, .inr 1000] [] [.inl f0] [q.1, g1, q.2.1, g3, g4, g5, q.2.2, g7]) → good 31 [.inr 0, .inl x1, .inl x2, .inl x3, .inl x4, .inl x5] [] [.inl f0] [g0, g1, g2, g3, g4, g5, g6, g7] := by
    intro n
    induction n with
    | zero => intro x1 x2 x3 x4 x5 g0 g2 g6 q h; exact absurd (show none = some q from h) (fun h => by cases h)
    | succ n ih =>
      intro x1 x2 x3 x4 x5 g0 g2 g6 q h hK
      replace h : zf_M_steered_l0_b x1 x2 x3 x4 f0 g1 g3 g4 g5 g7 (zf_M_steered_l0 x1 x2 x3 x4 f0 g1 g3 g4 g5 g7 n) x5 g0 g2 g6 = some q := h
      unfold zf_M_steered_l0_b at h
      refine zv_ild hB zd289_31 rfl rfl ?_
      refine zv_ild hB zd289_33 rfl rfl ?_
      refine zv_cge hB zd289_34 rfl (fun hc7 => ?_) (fun hc7 => ?_)
      · rw [if_neg (Int.not_lt.mpr hc7)] at h
        have hq := Option.some.inj h
        subst hq
        refine zv_wk hB (L' := [.inr 0, .inl x1, .inr 1000, .inr 1000, .inr 1000, .inr 1000]) (F' := [.inl f0]) ⟨fun _ => rfl, fun _ => rfl, fun (h : zv_is (.inr 1000)) => (Nat.lt_irrefl 1000 h).elim, fun (h : zv_is (.inr 1000)) => (Nat.lt_irrefl 1000 h).elim, fun (h : zv_is (.inr 1000)) => (Nat.lt_irrefl 1000 h).elim, fun (h : zv_is (.inr 1000)) => (Nat.lt_irrefl 1000 h).elim, trivial⟩ ⟨fun _ => rfl, trivial⟩ ?_
        exact hK
      · rw [if_pos hc7] at h
        refine zv_ald hB zd289_37 rfl rfl rfl ?_
        refine zv_ild hB zd289_38 rfl rfl ?_
        refine zv_ild hB zd289_39 rfl rfl ?_
        refine zv_ild hB zd289_40 rfl rfl ?_
        obtain ⟨r8, hr8, h⟩ := zi_bind h
        refine zv_cv hB (zv_emq (va2 := [.inr 0, .inl x1, .inl x2, .inl x4]) (F := [.inl f0]) (F' := [.inl f0]) (G := [g0, g1, g2, g3, g4, g5, g6, g7]) (G' := [r8.1, g1, r8.2.1, g3, g4, g5, r8.2.2, g7]) (ρ := [0, 1, 2, 3, 4, 5, 6, 7, 8]) (φ := [0]) (ψ := [0, 1, 2, 3, 4, 5, 6, 7]) [some 0] [some 0, some 1, some 2, some 3, some 4, some 5, some 6, some 7] zyw_M_steers zyw_M_steered zye_M_steered (by decide +kernel) (zt_M_steers hr8) ⟨⟨_, rfl, fun _ => rfl⟩, trivial⟩ ⟨rfl, rfl, rfl, rfl, rfl, rfl, rfl, rfl, trivial⟩ rfl rfl rfl rfl rfl rfl rfl) zd289_42 zxt290 rfl (by decide) (by decide) rfl ?_
        refine zv_iincw hB zd289_45 rfl rfl ?_
        refine zv_goto hB zd289_48 rfl ?_
        exact ih _ _ _ _ _ _ _ _ q h hK
  unfold zf_M_steered at h
  refine zv_ald hB zd289_0 rfl rfl rfl ?_
  refine zv_ild hB zd289_1 rfl rfl ?_
  obtain ⟨r1, hr1, h⟩ := zi_bind h
  refine zv_cv hB (zv_emq (va2 := [.inr 0, .inl x1]) (F := [.inl f0]) (F' := [.inl f0]) (G := [g0, g1, g2, g3, g4, g5, g6, g7]) (G' := [g0, g1, g2, g3, g4, g5, g6, g7]) (ρ := [0, 1]) (φ := []) (ψ := [0]) [none] [some 0, none, none, none, none, none, none, none] zyw_M_isShip zyw_M_steered zye_M_steered (by decide +kernel) (zt_M_isShip hr1) trivial ⟨rfl, trivial⟩ rfl rfl rfl rfl rfl rfl rfl) zd289_2 zxt210 rfl (by decide) (by decide) rfl ?_
  refine zv_zeq hB zd289_5 rfl (fun hc2 => ?_) (fun hc2 => ?_)
  · rw [if_pos hc2] at h
    refine zv_con hB zd289_26 rfl ?_
    have hw := Option.some.inj h
    subst hw
    exact hret _ _ _ _ _ zd289_27 (by trivial) ⟨rfl, rfl, rfl⟩
  · rw [if_neg hc2] at h
    refine zv_ald hB zd289_8 rfl rfl rfl ?_
    refine zv_ild hB zd289_9 rfl rfl ?_
    obtain ⟨r3, hr3, h⟩ := zi_bind h
    refine zv_cv hB (zv_emq (va2 := [.inr 0, .inl x2]) (F := [.inl f0]) (F' := [.inl f0]) (G := [g0, g1, g2, g3, g4, g5, g6, g7]) (G' := [g0, g1, g2, g3, g4, g5, g6, g7]) (ρ := [0, 1]) (φ := []) (ψ := [0]) [none] [some 0, none, none, none, none, none, none, none] zyw_M_isTold zyw_M_steered zye_M_steered (by decide +kernel) (zt_M_isTold hr3) trivial ⟨rfl, trivial⟩ rfl rfl rfl rfl rfl rfl rfl) zd289_10 zxt203 rfl (by decide) (by decide) rfl ?_
    refine zv_zeq hB zd289_13 rfl (fun hc4 => ?_) (fun hc4 => ?_)
    · rw [if_pos hc4] at h
      refine zv_con hB zd289_26 rfl ?_
      have hw := Option.some.inj h
      subst hw
      exact hret _ _ _ _ _ zd289_27 (by trivial) ⟨rfl, rfl, rfl⟩
    · rw [if_neg hc4] at h
      refine zv_ild hB zd289_16 rfl rfl ?_
      refine zv_con hB zd289_17 rfl ?_
      refine zv_con hB zd289_18 rfl ?_
      obtain ⟨r5, hr5, h⟩ := zi_bind h
      refine zv_cs hB (zv_emq (va2 := [.inl x3, .inl 1, .inl 48]) (F := [.inl f0]) (F' := [.inl f0]) (G := [g0, g1, g2, g3, g4, g5, g6, g7]) (G' := [g0, g1, g2, g3, g4, g5, g6, g7]) (ρ := []) (φ := []) (ψ := []) [none] [none, none, none, none, none, none, none, none] zyw_M_in zyw_M_steered zye_M_steered (by decide +kernel) (zt_M_in hr5) trivial trivial rfl rfl rfl rfl rfl rfl rfl) zd289_20 zxt200 rfl (by decide) (by decide) rfl ?_
      refine zv_zne hB zd289_23 rfl (fun hc6 => ?_) (fun hc6 => ?_)
      · rw [if_neg hc6] at h
        refine zv_con hB zd289_28 rfl ?_
        refine zv_ist hB zd289_29 rfl rfl rfl ?_
        obtain ⟨q9, hq9, h⟩ := zi_bind h
        refine l0 _ _ _ _ _ _ _ _ _ q9 hq9 ?_
        show good 51 [.inr 0, .inl x1, .inr 1000, .inr 1000, .inr 1000, .inr 1000] [] [.inl f0] [q9.1, g1, q9.2.1, g3, g4, g5, q9.2.2, g7]
        refine zv_ald hB zd289_51 rfl rfl rfl ?_
        refine zv_getr hB zd289_52 rfl ?_
        refine zv_con hB zd289_55 rfl ?_
        refine zv_ild hB zd289_57 rfl rfl ?_
        refine zv_addw hB zd289_58 ?_
        obtain ⟨c10, h⟩ := zi_if h
        refine zv_iald hB zd289_59 rfl rfl (zi_ix_ok c10).1 (zi_ix_ok c10).2 (fun _ _ => ?_)
        have hw := Option.some.inj h
        subst hw
        exact hret _ _ _ _ _ zd289_60 (by trivial) ⟨rfl, rfl, rfl⟩
      · rw [if_pos hc6] at h
        refine zv_con hB zd289_26 rfl ?_
        have hw := Option.some.inj h
        subst hw
        exact hret _ _ _ _ _ zd289_27 (by trivial) ⟨rfl, rfl, rfl⟩
/-! M_hours (I)I -/
-- names: 0 StarTalesModel('arg', 0), 1 (0, 422)(0, 12, 0)
-- fields: ; arrays: g0 = 1; out: [('ret', None), ('g', 0)]
abbrev zy_M_hours : zNL := (2, [(0, 12)], [], [(0, 12, 0, 1)], [(1, 0, 422, 0)])
theorem zyw_M_hours : zv_wf zy_M_hours = true := by decide +kernel
theorem zye_M_hours : zv_ek2 zy_M_hours = true := by decide +kernel
def zf_M_hours_l0_b (x1 : Int) (rec : Int → (Int → Int) → Option ((Int → Int))) (x2 : Int) (g0 : (Int → Int)) : Option ((Int → Int)) := if x2 < x1 then ((zf_M_passes g0).bind fun r4 => (rec (zi_w (x2 + 1)) r4)) else (some g0)
def zf_M_hours_l0 (x1 : Int) : Nat → Int → (Int → Int) → Option ((Int → Int))
  | 0, _, _ => none
  | n + 1, x2, g0 => zf_M_hours_l0_b x1 (zf_M_hours_l0 x1 n) x2 g0
def zf_M_hours (x1 : Int) (g0 : (Int → Int)) : Option (Int × (Int → Int)) := (zf_M_in x1 1 240).bind fun r1 => (if r1 = 0 then (some ((-1), g0)) else ((zf_M_hours_l0 x1 zi_fu 0 g0).bind fun q5 => (some ((q5 129), q5))))
theorem zd297_0 : decode zxm297.2.1 0 = .ok (.iload_n 1, 1) := by decide +kernel
theorem zd297_1 : decode zxm297.2.1 1 = .ok (.iconst 1, 1) := by decide +kernel
theorem zd297_2 : decode zxm297.2.1 2 = .ok (.sipush 240, 3) := by decide +kernel
theorem zd297_5 : decode zxm297.2.1 5 = .ok (.invokestatic 150, 3) := by decide +kernel
theorem zd297_8 : decode zxm297.2.1 8 = .ok (.ifCond .ne 5, 3) := by decide +kernel
theorem zd297_11 : decode zxm297.2.1 11 = .ok (.iconst (-1), 1) := by decide +kernel
theorem zd297_12 : decode zxm297.2.1 12 = .ok (.ireturn, 1) := by decide +kernel
theorem zd297_13 : decode zxm297.2.1 13 = .ok (.iconst 0, 1) := by decide +kernel
theorem zd297_14 : decode zxm297.2.1 14 = .ok (.istore_n 2, 1) := by decide +kernel
theorem zd297_15 : decode zxm297.2.1 15 = .ok (.iload_n 2, 1) := by decide +kernel
theorem zd297_16 : decode zxm297.2.1 16 = .ok (.iload_n 1, 1) := by decide +kernel
theorem zd297_17 : decode zxm297.2.1 17 = .ok (.if_icmp .ge 13, 3) := by decide +kernel
theorem zd297_20 : decode zxm297.2.1 20 = .ok (.aload_n 0, 1) := by decide +kernel
theorem zd297_21 : decode zxm297.2.1 21 = .ok (.invokevirtual 427, 3) := by decide +kernel
theorem zd297_24 : decode zxm297.2.1 24 = .ok (.iinc 2 1, 3) := by decide +kernel
theorem zd297_27 : decode zxm297.2.1 27 = .ok (.goto (-12), 3) := by decide +kernel
theorem zd297_30 : decode zxm297.2.1 30 = .ok (.aload_n 0, 1) := by decide +kernel
theorem zd297_31 : decode zxm297.2.1 31 = .ok (.getfield 7, 3) := by decide +kernel
theorem zd297_34 : decode zxm297.2.1 34 = .ok (.sipush 129, 3) := by decide +kernel
theorem zd297_37 : decode zxm297.2.1 37 = .ok (.iaload, 1) := by decide +kernel
theorem zd297_38 : decode zxm297.2.1 38 = .ok (.ireturn, 1) := by decide +kernel
theorem zt_M_hours {x1 : Int} {g0 : (Int → Int)} {o : Int × (Int → Int)} (h : zf_M_hours x1 g0 = some o) : zv_Fn z_TB z_cl z_KX zy_M_hours zxm297 (4, 240) [.inr 0, .inl x1] [] [g0] (some o.1) [] [o.2] := zv_meth (K := (z_KF13, z_KC13, z_KL13, z_KT13, [], [], [], none)) (FT := z_FT) (MT := z_MT) (n := 2) zxp297 (z_ks13 _ (fun _ h => List.mem_cons_of_mem _ h) _ _ _ _ (fun j r h _ => by cases h)) (fun _ _ => zs_KX_p) zyw_M_hours (fun va F G h => by obtain ⟨rfl, _⟩ := h; rfl) (fun va F G h => by obtain ⟨rfl, _⟩ := h; rfl) rfl fun good va F G hB hret hvret hP => by
  obtain ⟨rfl, rfl, rfl⟩ := hP
  have l0 : ∀ (n : Nat) (x1 : Int) (x2 : Int) (g0 : (Int → Int)) (q : (Int → Int)), zf_M_hours_l0 x1 n x2 g0 = some q → (good 30 [.inr 0, .inr 1000, .inr 1000] [] [] [q]) → good 15 [.inr 0, .inl x1, .inl x2] [] [] [g0] := by
    intro n
    induction n with
    | zero => intro x1 x2 g0 q h; exact absurd (show none = some q from h) (fun h => by cases h)
    | succ n ih =>
      intro x1 x2 g0 q h hK
      replace h : zf_M_hours_l0_b x1 (zf_M_hours_l0 x1 n) x2 g0 = some q := h
      unfold zf_M_hours_l0_b at h
      refine zv_ild hB zd297_15 rfl rfl ?_
      refine zv_ild hB zd297_16 rfl rfl ?_
      refine zv_cge hB zd297_17 rfl (fun hc3 => ?_) (fun hc3 => ?_)
      · rw [if_neg (Int.not_lt.mpr hc3)] at h
        have hq := Option.some.inj h
        subst hq
        refine zv_wk hB (L' := [.inr 0, .inr 1000, .inr 1000]) (F' := []) ⟨fun _ => rfl, fun (h : zv_is (.inr 1000)) => (Nat.lt_irrefl 1000 h).elim, fun (h : zv_is (.inr 1000)) => (Nat.lt_irrefl 1000 h).elim, trivial⟩ trivial ?_
        exact hK
      · rw [if_pos hc3] at h
        refine zv_ald hB zd297_20 rfl rfl rfl ?_
        obtain ⟨r4, hr4, h⟩ := zi_bind h
        refine zv_cv hB (zv_emq (va2 := [.inr 0]) (F := []) (F' := []) (G := [g0]) (G' := [r4]) (ρ := [0, 1]) (φ := []) (ψ := [0]) [] [some 0] zyw_M_passes zyw_M_hours zye_M_hours (by decide +kernel) (zt_M_passes hr4) trivial ⟨rfl, trivial⟩ rfl rfl rfl rfl rfl rfl rfl) zd297_21 zxt294 rfl (by decide) (by decide) rfl ?_
        refine zv_iincw hB zd297_24 rfl rfl ?_
        refine zv_goto hB zd297_27 rfl ?_
        exact ih _ _ _ q h hK
  unfold zf_M_hours at h
  refine zv_ild hB zd297_0 rfl rfl ?_
  refine zv_con hB zd297_1 rfl ?_
  refine zv_con hB zd297_2 rfl ?_
  obtain ⟨r1, hr1, h⟩ := zi_bind h
  refine zv_cs hB (zv_emq (va2 := [.inl x1, .inl 1, .inl 240]) (F := []) (F' := []) (G := [g0]) (G' := [g0]) (ρ := []) (φ := []) (ψ := []) [] [none] zyw_M_in zyw_M_hours zye_M_hours (by decide +kernel) (zt_M_in hr1) trivial trivial rfl rfl rfl rfl rfl rfl rfl) zd297_5 zxt200 rfl (by decide) (by decide) rfl ?_
  refine zv_zne hB zd297_8 rfl (fun hc2 => ?_) (fun hc2 => ?_)
  · rw [if_neg hc2] at h
    refine zv_con hB zd297_13 rfl ?_
    refine zv_ist hB zd297_14 rfl rfl rfl ?_
    obtain ⟨q5, hq5, h⟩ := zi_bind h
    refine l0 _ _ _ _ q5 hq5 ?_
    show good 30 [.inr 0, .inr 1000, .inr 1000] [] [] [q5]
    refine zv_ald hB zd297_30 rfl rfl rfl ?_
    refine zv_getr hB zd297_31 rfl ?_
    refine zv_con hB zd297_34 rfl ?_
    refine zv_iald hB zd297_37 rfl rfl (by decide) (by decide) (fun _ _ => ?_)
    have hw := Option.some.inj h
    subst hw
    exact hret _ _ _ _ _ zd297_38 (by trivial) ⟨rfl, rfl, rfl⟩
  · rw [if_pos hc2] at h
    refine zv_con hB zd297_11 rfl ?_
    have hw := Option.some.inj h
    subst hw
    exact hret _ _ _ _ _ zd297_12 (by trivial) ⟨rfl, rfl, rfl⟩
/-! M_copies_422_422 ([I[I)V -/
-- names: 0 (0, 422)('arg', 0), 1 (0, 422)('arg', 1)
-- fields: ; arrays: g0 = 0, g1 = 1; out: [('g', 1)]
abbrev zy_M_copies_422_422 : zNL := (2, [], [], [], [(0, 0, 422, 0), (1, 0, 422, 1)])
theorem zyw_M_copies_422_422 : zv_wf zy_M_copies_422_422 = true := by decide +kernel
theorem zye_M_copies_422_422 : zv_ek2 zy_M_copies_422_422 = true := by decide +kernel
def zf_M_copies_422_422_l0_b (g0 : (Int → Int)) (rec : Int → (Int → Int) → Option ((Int → Int))) (x2 : Int) (g1 : (Int → Int)) : Option ((Int → Int)) := if x2 < 422 then (cond (zi_ix x2 422) (rec (zi_w (x2 + 1)) (zv_up g1 x2 (g0 x2))) none) else (some g1)
def zf_M_copies_422_422_l0 (g0 : (Int → Int)) : Nat → Int → (Int → Int) → Option ((Int → Int))
  | 0, _, _ => none
  | n + 1, x2, g1 => zf_M_copies_422_422_l0_b g0 (zf_M_copies_422_422_l0 g0 n) x2 g1
def zf_M_copies_422_422 (g0 : (Int → Int)) (g1 : (Int → Int)) : Option ((Int → Int)) := (zf_M_copies_422_422_l0 g0 zi_fu 0 g1).bind fun q3 => (some q3)
theorem zd300_0 : decode zxm300.2.1 0 = .ok (.iconst 0, 1) := by decide +kernel
theorem zd300_1 : decode zxm300.2.1 1 = .ok (.istore_n 2, 1) := by decide +kernel
theorem zd300_2 : decode zxm300.2.1 2 = .ok (.iload_n 2, 1) := by decide +kernel
theorem zd300_3 : decode zxm300.2.1 3 = .ok (.sipush 422, 3) := by decide +kernel
theorem zd300_6 : decode zxm300.2.1 6 = .ok (.if_icmp .ge 15, 3) := by decide +kernel
theorem zd300_9 : decode zxm300.2.1 9 = .ok (.aload_n 1, 1) := by decide +kernel
theorem zd300_10 : decode zxm300.2.1 10 = .ok (.iload_n 2, 1) := by decide +kernel
theorem zd300_11 : decode zxm300.2.1 11 = .ok (.aload_n 0, 1) := by decide +kernel
theorem zd300_12 : decode zxm300.2.1 12 = .ok (.iload_n 2, 1) := by decide +kernel
theorem zd300_13 : decode zxm300.2.1 13 = .ok (.iaload, 1) := by decide +kernel
theorem zd300_14 : decode zxm300.2.1 14 = .ok (.iastore, 1) := by decide +kernel
theorem zd300_15 : decode zxm300.2.1 15 = .ok (.iinc 2 1, 3) := by decide +kernel
theorem zd300_18 : decode zxm300.2.1 18 = .ok (.goto (-16), 3) := by decide +kernel
theorem zd300_21 : decode zxm300.2.1 21 = .ok (.return_, 1) := by decide +kernel
theorem zt_M_copies_422_422 {g0 : (Int → Int)} {g1 : (Int → Int)} {o : (Int → Int)} (h : zf_M_copies_422_422 g0 g1 = some o) : zv_Fn z_TB z_cl z_KX zy_M_copies_422_422 zxm300 (0, 0) [.inr 0, .inr 1] [] [g0, g1] none [] [g0, o] := zv_meth (K := (z_KF13, z_KC13, z_KL13, z_KT13, [], [], [], none)) (FT := z_FT) (MT := z_MT) (n := 2) zxp300 (z_ks13 _ (fun _ h => List.mem_cons_of_mem _ h) _ _ _ _ (fun j r h _ => by cases h)) (fun _ _ => zs_KX_p) zyw_M_copies_422_422 (fun va F G h => by obtain ⟨rfl, _⟩ := h; rfl) (fun va F G h => by obtain ⟨rfl, _⟩ := h; rfl) rfl fun good va F G hB hret hvret hP => by
  obtain ⟨rfl, rfl, rfl⟩ := hP
  have l0 : ∀ (n : Nat) (x2 : Int) (g1 : (Int → Int)) (q : (Int → Int)), zf_M_copies_422_422_l0 g0 n x2 g1 = some q → (good 21 [.inr 1000, .inr 1000, .inr 1000] [] [] [g0, q]) → good 2 [.inr 0, .inr 1, .inl x2] [] [] [g0, g1] := by
    intro n
    induction n with
    | zero => intro x2 g1 q h; exact absurd (show none = some q from h) (fun h => by cases h)
    | succ n ih =>
      intro x2 g1 q h hK
      replace h : zf_M_copies_422_422_l0_b g0 (zf_M_copies_422_422_l0 g0 n) x2 g1 = some q := h
      unfold zf_M_copies_422_422_l0_b at h
      refine zv_ild hB zd300_2 rfl rfl ?_
      refine zv_con hB zd300_3 rfl ?_
      refine zv_cge hB zd300_6 rfl (fun hc1 => ?_) (fun hc1 => ?_)
      · rw [if_neg (Int.not_lt.mpr hc1)] at h
        have hq := Option.some.inj h
        subst hq
        refine zv_wk hB (L' := [.inr 1000, .inr 1000, .inr 1000]) (F' := []) ⟨fun (h : zv_is (.inr 1000)) => (Nat.lt_irrefl 1000 h).elim, fun (h : zv_is (.inr 1000)) => (Nat.lt_irrefl 1000 h).elim, fun (h : zv_is (.inr 1000)) => (Nat.lt_irrefl 1000 h).elim, trivial⟩ trivial ?_
        exact hK
      · rw [if_pos hc1] at h
        refine zv_ald hB zd300_9 rfl rfl rfl ?_
        refine zv_ild hB zd300_10 rfl rfl ?_
        refine zv_ald hB zd300_11 rfl rfl rfl ?_
        refine zv_ild hB zd300_12 rfl rfl ?_
        obtain ⟨c2, h⟩ := zi_if h
        refine zv_iald hB zd300_13 rfl rfl (zi_ix_ok c2).1 (zi_ix_ok c2).2 (fun _ _ => ?_)
        refine zv_iast hB zd300_14 rfl rfl (zi_ix_ok c2).1 (zi_ix_ok c2).2 ?_
        refine zv_iincw hB zd300_15 rfl rfl ?_
        refine zv_goto hB zd300_18 rfl ?_
        exact ih _ _ q h hK
  unfold zf_M_copies_422_422 at h
  refine zv_con hB zd300_0 rfl ?_
  refine zv_ist hB zd300_1 rfl rfl rfl ?_
  obtain ⟨q3, hq3, h⟩ := zi_bind h
  refine l0 _ _ _ q3 hq3 ?_
  show good 21 [.inr 1000, .inr 1000, .inr 1000] [] [] [g0, q3]
  have hw := Option.some.inj h
  subst hw
  exact hvret _ _ _ _ zd300_21 trivial ⟨rfl, rfl, rfl⟩
/-! M_begins ()V -/
-- names: 0 StarTalesModel('arg', 0), 1 (0, 422)(0, 12, 0), 2 (0, 422)(0, 12, 1)
-- fields: ; arrays: g0 = 1, g1 = 2; out: [('g', 1)]
abbrev zy_M_begins : zNL := (3, [(0, 12)], [], [(0, 12, 0, 1), (0, 12, 1, 2)], [(1, 0, 422, 0), (2, 0, 422, 1)])
theorem zyw_M_begins : zv_wf zy_M_begins = true := by decide +kernel
theorem zye_M_begins : zv_ek2 zy_M_begins = true := by decide +kernel
def zf_M_begins (g0 : (Int → Int)) (g1 : (Int → Int)) : Option ((Int → Int)) := (zf_M_copies_422_422 g0 g1).bind fun r1 => (some r1)
theorem zd299_0 : decode zxm299.2.1 0 = .ok (.aload_n 0, 1) := by decide +kernel
theorem zd299_1 : decode zxm299.2.1 1 = .ok (.getfield 7, 3) := by decide +kernel
theorem zd299_4 : decode zxm299.2.1 4 = .ok (.aload_n 0, 1) := by decide +kernel
theorem zd299_5 : decode zxm299.2.1 5 = .ok (.getfield 13, 3) := by decide +kernel
theorem zd299_8 : decode zxm299.2.1 8 = .ok (.invokestatic 134, 3) := by decide +kernel
theorem zd299_11 : decode zxm299.2.1 11 = .ok (.return_, 1) := by decide +kernel
theorem zt_M_begins {g0 : (Int → Int)} {g1 : (Int → Int)} {o : (Int → Int)} (h : zf_M_begins g0 g1 = some o) : zv_Fn z_TB z_cl z_KX zy_M_begins zxm299 (1, 60) [.inr 0] [] [g0, g1] none [] [g0, o] := zv_meth (K := (z_KF13, z_KC13, z_KL13, z_KT13, [], [], [], none)) (FT := z_FT) (MT := z_MT) (n := 1) zxp299 (z_ks13 _ (fun _ h => List.mem_cons_of_mem _ h) _ _ _ _ (fun j r h _ => by cases h)) (fun _ _ => zs_KX_p) zyw_M_begins (fun va F G h => by obtain ⟨rfl, _⟩ := h; rfl) (fun va F G h => by obtain ⟨rfl, _⟩ := h; rfl) rfl fun good va F G hB hret hvret hP => by
  obtain ⟨rfl, rfl, rfl⟩ := hP
  unfold zf_M_begins at h
  refine zv_ald hB zd299_0 rfl rfl rfl ?_
  refine zv_getr hB zd299_1 rfl ?_
  refine zv_ald hB zd299_4 rfl rfl rfl ?_
  refine zv_getr hB zd299_5 rfl ?_
  obtain ⟨r1, hr1, h⟩ := zi_bind h
  refine zv_cs hB (zv_emq (va2 := [.inr 1, .inr 2]) (F := []) (F' := []) (G := [g0, g1]) (G' := [g0, r1]) (ρ := [1, 2]) (φ := []) (ψ := [0, 1]) [] [some 0, some 1] zyw_M_copies_422_422 zyw_M_begins zye_M_begins (by decide +kernel) (zt_M_copies_422_422 hr1) trivial ⟨rfl, rfl, trivial⟩ rfl rfl rfl rfl rfl rfl rfl) zd299_8 zxt300 rfl (by decide) (by decide) rfl ?_
  have hw := Option.some.inj h
  subst hw
  exact hvret _ _ _ _ zd299_11 trivial ⟨rfl, rfl, rfl⟩
/-! M_again ()V -/
-- names: 0 StarTalesModel('arg', 0), 1 (0, 422)(0, 12, 1), 2 (0, 422)(0, 12, 0)
-- fields: ; arrays: g0 = 1, g1 = 2; out: [('g', 1)]
abbrev zy_M_again : zNL := (3, [(0, 12)], [], [(0, 12, 1, 1), (0, 12, 0, 2)], [(1, 0, 422, 0), (2, 0, 422, 1)])
theorem zyw_M_again : zv_wf zy_M_again = true := by decide +kernel
theorem zye_M_again : zv_ek2 zy_M_again = true := by decide +kernel
def zf_M_again (g0 : (Int → Int)) (g1 : (Int → Int)) : Option ((Int → Int)) := (zf_M_copies_422_422 g0 g1).bind fun r1 => (some r1)
theorem zd301_0 : decode zxm301.2.1 0 = .ok (.aload_n 0, 1) := by decide +kernel
theorem zd301_1 : decode zxm301.2.1 1 = .ok (.getfield 13, 3) := by decide +kernel
theorem zd301_4 : decode zxm301.2.1 4 = .ok (.aload_n 0, 1) := by decide +kernel
theorem zd301_5 : decode zxm301.2.1 5 = .ok (.getfield 7, 3) := by decide +kernel
theorem zd301_8 : decode zxm301.2.1 8 = .ok (.invokestatic 134, 3) := by decide +kernel
theorem zd301_11 : decode zxm301.2.1 11 = .ok (.return_, 1) := by decide +kernel
theorem zt_M_again {g0 : (Int → Int)} {g1 : (Int → Int)} {o : (Int → Int)} (h : zf_M_again g0 g1 = some o) : zv_Fn z_TB z_cl z_KX zy_M_again zxm301 (1, 60) [.inr 0] [] [g0, g1] none [] [g0, o] := zv_meth (K := (z_KF13, z_KC13, z_KL13, z_KT13, [], [], [], none)) (FT := z_FT) (MT := z_MT) (n := 1) zxp301 (z_ks13 _ (fun _ h => List.mem_cons_of_mem _ h) _ _ _ _ (fun j r h _ => by cases h)) (fun _ _ => zs_KX_p) zyw_M_again (fun va F G h => by obtain ⟨rfl, _⟩ := h; rfl) (fun va F G h => by obtain ⟨rfl, _⟩ := h; rfl) rfl fun good va F G hB hret hvret hP => by
  obtain ⟨rfl, rfl, rfl⟩ := hP
  unfold zf_M_again at h
  refine zv_ald hB zd301_0 rfl rfl rfl ?_
  refine zv_getr hB zd301_1 rfl ?_
  refine zv_ald hB zd301_4 rfl rfl rfl ?_
  refine zv_getr hB zd301_5 rfl ?_
  obtain ⟨r1, hr1, h⟩ := zi_bind h
  refine zv_cs hB (zv_emq (va2 := [.inr 1, .inr 2]) (F := []) (F' := []) (G := [g0, g1]) (G' := [g0, r1]) (ρ := [1, 2]) (φ := []) (ψ := [0, 1]) [] [some 0, some 1] zyw_M_copies_422_422 zyw_M_again zye_M_again (by decide +kernel) (zt_M_copies_422_422 hr1) trivial ⟨rfl, rfl, trivial⟩ rfl rfl rfl rfl rfl rfl rfl) zd301_8 zxt300 rfl (by decide) (by decide) rfl ?_
  have hw := Option.some.inj h
  subst hw
  exact hvret _ _ _ _ zd301_11 trivial ⟨rfl, rfl, rfl⟩
/-! M_found ()I -/
-- names: 0 StarTalesModel('arg', 0), 1 (0, 422)(0, 12, 0), 2 (0, 422)(0, 12, 1), 3 (1, 220)(0, 12, 3)
-- fields: f0 = 0.taped_; arrays: g0 = 1, g1 = 2, g2 = 3; out: [('ret', None), ('f', 0), ('g', 0), ('g', 1)]
abbrev zy_M_found : zNL := (4, [(0, 12)], [(0, 12, 4, 0)], [(0, 12, 0, 1), (0, 12, 1, 2), (0, 12, 3, 3)], [(1, 0, 422, 0), (2, 0, 422, 1), (3, 1, 220, 2)])
theorem zyw_M_found : zv_wf zy_M_found = true := by decide +kernel
theorem zye_M_found : zv_ek2 zy_M_found = true := by decide +kernel
def zf_M_found_l0_b (g0 : (Int → Int)) (g2 : (Int → Int)) (rec : Int → Int → Int → Option (Int)) (x1 : Int) (x2 : Int) (x3 : Int) : Option (Int) := if x3 < 24 then ((zf_M_isTold x3 g0).bind fun r7 => (if r7 = 0 then (rec x1 x2 (zi_w (x3 + 1))) else (cond (zi_ix x2 220) (cond (zi_ix (zi_w (0 + x3)) 422) (if (zi_and (g2 x2) 255) = (g0 (zi_w (0 + x3))) then (cond (zi_ix (zi_w (x2 + 1)) 220) (cond (zi_ix (zi_w (24 + x3)) 422) (if (zi_and (g2 (zi_w (x2 + 1))) 255) = (g0 (zi_w (24 + x3))) then (rec x1 (zi_w (x2 + 2)) (zi_w (x3 + 1))) else (rec (zi_or x1 (zi_shl 1 x3)) (zi_w (x2 + 2)) (zi_w (x3 + 1)))) none) none) else (rec (zi_or x1 (zi_shl 1 x3)) (zi_w (x2 + 2)) (zi_w (x3 + 1)))) none) none))) else (some x1)
def zf_M_found_l0 (g0 : (Int → Int)) (g2 : (Int → Int)) : Nat → Int → Int → Int → Option (Int)
  | 0, _, _, _ => none
  | n + 1, x1, x2, x3 => zf_M_found_l0_b g0 g2 (zf_M_found_l0 g0 g2 n) x1 x2 x3
def zf_M_found (f0 : Int) (g0 : (Int → Int)) (g1 : (Int → Int)) (g2 : (Int → Int)) : Option (Int × Int × (Int → Int) × (Int → Int)) := if (g0 126) = 0 then (some ((-1), f0, g0, g1)) else ((zf_M_bits (g0 126)).bind fun r2 => (if f0 < (zi_w (2 * r2)) then (some ((-1), f0, g0, g1)) else ((zf_M_begins g0 g1).bind fun r4 => ((zf_M_walks g0).bind fun r5 => ((zf_M_found_l0 r5 g2 zi_fu 0 0 0).bind fun q15 => ((zf_M_again r4 r5).bind fun r16 => (some (q15, 0, r16, r4))))))))
theorem zd298_0 : decode zxm298.2.1 0 = .ok (.aload_n 0, 1) := by decide +kernel
theorem zd298_1 : decode zxm298.2.1 1 = .ok (.getfield 7, 3) := by decide +kernel
theorem zd298_4 : decode zxm298.2.1 4 = .ok (.bipush 126, 2) := by decide +kernel
theorem zd298_6 : decode zxm298.2.1 6 = .ok (.iaload, 1) := by decide +kernel
theorem zd298_7 : decode zxm298.2.1 7 = .ok (.ifCond .eq 22, 3) := by decide +kernel
theorem zd298_10 : decode zxm298.2.1 10 = .ok (.iconst 2, 1) := by decide +kernel
theorem zd298_11 : decode zxm298.2.1 11 = .ok (.aload_n 0, 1) := by decide +kernel
theorem zd298_12 : decode zxm298.2.1 12 = .ok (.getfield 7, 3) := by decide +kernel
theorem zd298_15 : decode zxm298.2.1 15 = .ok (.bipush 126, 2) := by decide +kernel
theorem zd298_17 : decode zxm298.2.1 17 = .ok (.iaload, 1) := by decide +kernel
theorem zd298_18 : decode zxm298.2.1 18 = .ok (.invokestatic 321, 3) := by decide +kernel
theorem zd298_21 : decode zxm298.2.1 21 = .ok (.imul, 1) := by decide +kernel
theorem zd298_22 : decode zxm298.2.1 22 = .ok (.aload_n 0, 1) := by decide +kernel
theorem zd298_23 : decode zxm298.2.1 23 = .ok (.getfield 168, 3) := by decide +kernel
theorem zd298_26 : decode zxm298.2.1 26 = .ok (.if_icmp .le 5, 3) := by decide +kernel
theorem zd298_29 : decode zxm298.2.1 29 = .ok (.iconst (-1), 1) := by decide +kernel
theorem zd298_30 : decode zxm298.2.1 30 = .ok (.ireturn, 1) := by decide +kernel
theorem zd298_31 : decode zxm298.2.1 31 = .ok (.aload_n 0, 1) := by decide +kernel
theorem zd298_32 : decode zxm298.2.1 32 = .ok (.iconst 0, 1) := by decide +kernel
theorem zd298_33 : decode zxm298.2.1 33 = .ok (.putfield 168, 3) := by decide +kernel
theorem zd298_36 : decode zxm298.2.1 36 = .ok (.aload_n 0, 1) := by decide +kernel
theorem zd298_37 : decode zxm298.2.1 37 = .ok (.invokevirtual 434, 3) := by decide +kernel
theorem zd298_40 : decode zxm298.2.1 40 = .ok (.aload_n 0, 1) := by decide +kernel
theorem zd298_41 : decode zxm298.2.1 41 = .ok (.invokevirtual 414, 3) := by decide +kernel
theorem zd298_44 : decode zxm298.2.1 44 = .ok (.iconst 0, 1) := by decide +kernel
theorem zd298_45 : decode zxm298.2.1 45 = .ok (.istore_n 1, 1) := by decide +kernel
theorem zd298_46 : decode zxm298.2.1 46 = .ok (.iconst 0, 1) := by decide +kernel
theorem zd298_47 : decode zxm298.2.1 47 = .ok (.istore_n 2, 1) := by decide +kernel
theorem zd298_48 : decode zxm298.2.1 48 = .ok (.iconst 0, 1) := by decide +kernel
theorem zd298_49 : decode zxm298.2.1 49 = .ok (.istore_n 3, 1) := by decide +kernel
theorem zd298_50 : decode zxm298.2.1 50 = .ok (.iload_n 3, 1) := by decide +kernel
theorem zd298_51 : decode zxm298.2.1 51 = .ok (.bipush 24, 2) := by decide +kernel
theorem zd298_53 : decode zxm298.2.1 53 = .ok (.if_icmp .ge 75, 3) := by decide +kernel
theorem zd298_56 : decode zxm298.2.1 56 = .ok (.aload_n 0, 1) := by decide +kernel
theorem zd298_57 : decode zxm298.2.1 57 = .ok (.iload_n 3, 1) := by decide +kernel
theorem zd298_58 : decode zxm298.2.1 58 = .ok (.invokevirtual 157, 3) := by decide +kernel
theorem zd298_61 : decode zxm298.2.1 61 = .ok (.ifCond .ne 6, 3) := by decide +kernel
theorem zd298_64 : decode zxm298.2.1 64 = .ok (.goto 58, 3) := by decide +kernel
theorem zd298_67 : decode zxm298.2.1 67 = .ok (.aload_n 0, 1) := by decide +kernel
theorem zd298_68 : decode zxm298.2.1 68 = .ok (.getfield 19, 3) := by decide +kernel
theorem zd298_71 : decode zxm298.2.1 71 = .ok (.iload_n 2, 1) := by decide +kernel
theorem zd298_72 : decode zxm298.2.1 72 = .ok (.baload, 1) := by decide +kernel
theorem zd298_73 : decode zxm298.2.1 73 = .ok (.sipush 255, 3) := by decide +kernel
theorem zd298_76 : decode zxm298.2.1 76 = .ok (.iand, 1) := by decide +kernel
theorem zd298_77 : decode zxm298.2.1 77 = .ok (.aload_n 0, 1) := by decide +kernel
theorem zd298_78 : decode zxm298.2.1 78 = .ok (.getfield 7, 3) := by decide +kernel
theorem zd298_81 : decode zxm298.2.1 81 = .ok (.iconst 0, 1) := by decide +kernel
theorem zd298_82 : decode zxm298.2.1 82 = .ok (.iload_n 3, 1) := by decide +kernel
theorem zd298_83 : decode zxm298.2.1 83 = .ok (.iadd, 1) := by decide +kernel
theorem zd298_84 : decode zxm298.2.1 84 = .ok (.iaload, 1) := by decide +kernel
theorem zd298_85 : decode zxm298.2.1 85 = .ok (.if_icmp .ne 27, 3) := by decide +kernel
theorem zd298_88 : decode zxm298.2.1 88 = .ok (.aload_n 0, 1) := by decide +kernel
theorem zd298_89 : decode zxm298.2.1 89 = .ok (.getfield 19, 3) := by decide +kernel
theorem zd298_92 : decode zxm298.2.1 92 = .ok (.iload_n 2, 1) := by decide +kernel
theorem zd298_93 : decode zxm298.2.1 93 = .ok (.iconst 1, 1) := by decide +kernel
theorem zd298_94 : decode zxm298.2.1 94 = .ok (.iadd, 1) := by decide +kernel
theorem zd298_95 : decode zxm298.2.1 95 = .ok (.baload, 1) := by decide +kernel
theorem zd298_96 : decode zxm298.2.1 96 = .ok (.sipush 255, 3) := by decide +kernel
theorem zd298_99 : decode zxm298.2.1 99 = .ok (.iand, 1) := by decide +kernel
theorem zd298_100 : decode zxm298.2.1 100 = .ok (.aload_n 0, 1) := by decide +kernel
theorem zd298_101 : decode zxm298.2.1 101 = .ok (.getfield 7, 3) := by decide +kernel
theorem zd298_104 : decode zxm298.2.1 104 = .ok (.bipush 24, 2) := by decide +kernel
theorem zd298_106 : decode zxm298.2.1 106 = .ok (.iload_n 3, 1) := by decide +kernel
theorem zd298_107 : decode zxm298.2.1 107 = .ok (.iadd, 1) := by decide +kernel
theorem zd298_108 : decode zxm298.2.1 108 = .ok (.iaload, 1) := by decide +kernel
theorem zd298_109 : decode zxm298.2.1 109 = .ok (.if_icmp .eq 9, 3) := by decide +kernel
theorem zd298_112 : decode zxm298.2.1 112 = .ok (.iload_n 1, 1) := by decide +kernel
theorem zd298_113 : decode zxm298.2.1 113 = .ok (.iconst 1, 1) := by decide +kernel
theorem zd298_114 : decode zxm298.2.1 114 = .ok (.iload_n 3, 1) := by decide +kernel
theorem zd298_115 : decode zxm298.2.1 115 = .ok (.ishl, 1) := by decide +kernel
theorem zd298_116 : decode zxm298.2.1 116 = .ok (.ior, 1) := by decide +kernel
theorem zd298_117 : decode zxm298.2.1 117 = .ok (.istore_n 1, 1) := by decide +kernel
theorem zd298_118 : decode zxm298.2.1 118 = .ok (.iload_n 2, 1) := by decide +kernel
theorem zd298_119 : decode zxm298.2.1 119 = .ok (.iconst 2, 1) := by decide +kernel
theorem zd298_120 : decode zxm298.2.1 120 = .ok (.iadd, 1) := by decide +kernel
theorem zd298_121 : decode zxm298.2.1 121 = .ok (.istore_n 2, 1) := by decide +kernel
theorem zd298_122 : decode zxm298.2.1 122 = .ok (.iinc 3 1, 3) := by decide +kernel
theorem zd298_125 : decode zxm298.2.1 125 = .ok (.goto (-75), 3) := by decide +kernel
theorem zd298_128 : decode zxm298.2.1 128 = .ok (.aload_n 0, 1) := by decide +kernel
theorem zd298_129 : decode zxm298.2.1 129 = .ok (.invokevirtual 437, 3) := by decide +kernel
theorem zd298_132 : decode zxm298.2.1 132 = .ok (.iload_n 1, 1) := by decide +kernel
theorem zd298_133 : decode zxm298.2.1 133 = .ok (.ireturn, 1) := by decide +kernel
theorem zt_M_found {f0 : Int} {g0 : (Int → Int)} {g1 : (Int → Int)} {g2 : (Int → Int)} {o : Int × Int × (Int → Int) × (Int → Int)} (h : zf_M_found f0 g0 g1 g2 = some o) : zv_Fn z_TB z_cl z_KX zy_M_found zxm298 (3, 180) [.inr 0] [.inl f0] [g0, g1, g2] (some o.1) [.inl o.2.1] [o.2.2.1, o.2.2.2, g2] := zv_meth (K := (z_KF13, z_KC13, z_KL13, z_KT13, [], [], [], none)) (FT := z_FT) (MT := z_MT) (n := 1) zxp298 (z_ks13 _ (fun _ h => List.mem_cons_of_mem _ h) _ _ _ _ (fun j r h _ => by cases h)) (fun _ _ => zs_KX_p) zyw_M_found (fun va F G h => by obtain ⟨rfl, _⟩ := h; rfl) (fun va F G h => by obtain ⟨rfl, _⟩ := h; rfl) rfl fun good va F G hB hret hvret hP => by
  obtain ⟨rfl, rfl, rfl⟩ := hP
  have l0 : ∀ (n : Nat) (x1 : Int) (x2 : Int) (x3 : Int) (f0 : Int) (g0 : (Int → Int)) (g1 : (Int → Int)) (q : Int), zf_M_found_l0 g0 g2 n x1 x2 x3 = some q → (good 128 [.inr 0, .inl q, .inr 1000, .inr 1000] [] [.inl f0] [g0, g1, g2]) → good 50 [.inr 0, .inl x1, .inl x2, .inl x3] [] [.inl f0] [g0, g1, g2] := by
    intro n
    induction n with
    | zero => intro x1 x2 x3 f0 g0 g1 q h; exact absurd (show none = some q from h) (fun h => by cases h)
    | succ n ih =>
      intro x1 x2 x3 f0 g0 g1 q h hK
      replace h : zf_M_found_l0_b g0 g2 (zf_M_found_l0 g0 g2 n) x1 x2 x3 = some q := h
      unfold zf_M_found_l0_b at h
      refine zv_ild hB zd298_50 rfl rfl ?_
      refine zv_con hB zd298_51 rfl ?_
      refine zv_cge hB zd298_53 rfl (fun hc6 => ?_) (fun hc6 => ?_)
      · rw [if_neg (Int.not_lt.mpr hc6)] at h
        have hq := Option.some.inj h
        subst hq
        refine zv_wk hB (L' := [.inr 0, .inl x1, .inr 1000, .inr 1000]) (F' := [.inl f0]) ⟨fun _ => rfl, fun _ => rfl, fun (h : zv_is (.inr 1000)) => (Nat.lt_irrefl 1000 h).elim, fun (h : zv_is (.inr 1000)) => (Nat.lt_irrefl 1000 h).elim, trivial⟩ ⟨fun _ => rfl, trivial⟩ ?_
        exact hK
      · rw [if_pos hc6] at h
        refine zv_ald hB zd298_56 rfl rfl rfl ?_
        refine zv_ild hB zd298_57 rfl rfl ?_
        obtain ⟨r7, hr7, h⟩ := zi_bind h
        refine zv_cv hB (zv_emq (va2 := [.inr 0, .inl x3]) (F := [.inl f0]) (F' := [.inl f0]) (G := [g0, g1, g2]) (G' := [g0, g1, g2]) (ρ := [0, 1]) (φ := []) (ψ := [0]) [none] [some 0, none, none] zyw_M_isTold zyw_M_found zye_M_found (by decide +kernel) (zt_M_isTold hr7) trivial ⟨rfl, trivial⟩ rfl rfl rfl rfl rfl rfl rfl) zd298_58 zxt203 rfl (by decide) (by decide) rfl ?_
        refine zv_zne hB zd298_61 rfl (fun hc8 => ?_) (fun hc8 => ?_)
        · rw [if_neg hc8] at h
          refine zv_ald hB zd298_67 rfl rfl rfl ?_
          refine zv_getr hB zd298_68 rfl ?_
          refine zv_ild hB zd298_71 rfl rfl ?_
          obtain ⟨c9, h⟩ := zi_if h
          refine zv_bald hB zd298_72 rfl rfl (zi_ix_ok c9).1 (zi_ix_ok c9).2 (fun _ _ => ?_)
          refine zv_con hB zd298_73 rfl ?_
          refine zv_andw hB zd298_76 ?_
          refine zv_ald hB zd298_77 rfl rfl rfl ?_
          refine zv_getr hB zd298_78 rfl ?_
          refine zv_con hB zd298_81 rfl ?_
          refine zv_ild hB zd298_82 rfl rfl ?_
          refine zv_addw hB zd298_83 ?_
          obtain ⟨c10, h⟩ := zi_if h
          refine zv_iald hB zd298_84 rfl rfl (zi_ix_ok c10).1 (zi_ix_ok c10).2 (fun _ _ => ?_)
          refine zv_cne hB zd298_85 rfl (fun hc11 => ?_) (fun hc11 => ?_)
          · rw [if_neg hc11] at h
            refine zv_ild hB zd298_112 rfl rfl ?_
            refine zv_con hB zd298_113 rfl ?_
            refine zv_ild hB zd298_114 rfl rfl ?_
            refine zv_shlw hB zd298_115 ?_
            refine zv_orw hB zd298_116 ?_
            refine zv_ist hB zd298_117 rfl rfl rfl ?_
            refine zv_ild hB zd298_118 rfl rfl ?_
            refine zv_con hB zd298_119 rfl ?_
            refine zv_addw hB zd298_120 ?_
            refine zv_ist hB zd298_121 rfl rfl rfl ?_
            refine zv_iincw hB zd298_122 rfl rfl ?_
            refine zv_goto hB zd298_125 rfl ?_
            exact ih _ _ _ _ _ _ q h hK
          · rw [if_pos hc11] at h
            refine zv_ald hB zd298_88 rfl rfl rfl ?_
            refine zv_getr hB zd298_89 rfl ?_
            refine zv_ild hB zd298_92 rfl rfl ?_
            refine zv_con hB zd298_93 rfl ?_
            refine zv_addw hB zd298_94 ?_
            obtain ⟨c12, h⟩ := zi_if h
            refine zv_bald hB zd298_95 rfl rfl (zi_ix_ok c12).1 (zi_ix_ok c12).2 (fun _ _ => ?_)
            refine zv_con hB zd298_96 rfl ?_
            refine zv_andw hB zd298_99 ?_
            refine zv_ald hB zd298_100 rfl rfl rfl ?_
            refine zv_getr hB zd298_101 rfl ?_
            refine zv_con hB zd298_104 rfl ?_
            refine zv_ild hB zd298_106 rfl rfl ?_
            refine zv_addw hB zd298_107 ?_
            obtain ⟨c13, h⟩ := zi_if h
            refine zv_iald hB zd298_108 rfl rfl (zi_ix_ok c13).1 (zi_ix_ok c13).2 (fun _ _ => ?_)
            refine zv_ceq hB zd298_109 rfl (fun hc14 => ?_) (fun hc14 => ?_)
            · rw [if_pos hc14] at h
              refine zv_ild hB zd298_118 rfl rfl ?_
              refine zv_con hB zd298_119 rfl ?_
              refine zv_addw hB zd298_120 ?_
              refine zv_ist hB zd298_121 rfl rfl rfl ?_
              refine zv_iincw hB zd298_122 rfl rfl ?_
              refine zv_goto hB zd298_125 rfl ?_
              exact ih _ _ _ _ _ _ q h hK
            · rw [if_neg hc14] at h
              refine zv_ild hB zd298_112 rfl rfl ?_
              refine zv_con hB zd298_113 rfl ?_
              refine zv_ild hB zd298_114 rfl rfl ?_
              refine zv_shlw hB zd298_115 ?_
              refine zv_orw hB zd298_116 ?_
              refine zv_ist hB zd298_117 rfl rfl rfl ?_
              refine zv_ild hB zd298_118 rfl rfl ?_
              refine zv_con hB zd298_119 rfl ?_
              refine zv_addw hB zd298_120 ?_
              refine zv_ist hB zd298_121 rfl rfl rfl ?_
              refine zv_iincw hB zd298_122 rfl rfl ?_
              refine zv_goto hB zd298_125 rfl ?_
              exact ih _ _ _ _ _ _ q h hK
        · rw [if_pos hc8] at h
          refine zv_goto hB zd298_64 rfl ?_
          refine zv_iincw hB zd298_122 rfl rfl ?_
          refine zv_goto hB zd298_125 rfl ?_
          exact ih _ _ _ _ _ _ q h hK
  unfold zf_M_found at h
  refine zv_ald hB zd298_0 rfl rfl rfl ?_
  refine zv_getr hB zd298_1 rfl ?_
  refine zv_con hB zd298_4 rfl ?_
  refine zv_iald hB zd298_6 rfl rfl (by decide) (by decide) (fun _ _ => ?_)
  refine zv_zeq hB zd298_7 rfl (fun hc1 => ?_) (fun hc1 => ?_)
  · rw [if_pos hc1] at h
    refine zv_con hB zd298_29 rfl ?_
    have hw := Option.some.inj h
    subst hw
    exact hret _ _ _ _ _ zd298_30 (by trivial) ⟨rfl, rfl, rfl⟩
  · rw [if_neg hc1] at h
    refine zv_con hB zd298_10 rfl ?_
    refine zv_ald hB zd298_11 rfl rfl rfl ?_
    refine zv_getr hB zd298_12 rfl ?_
    refine zv_con hB zd298_15 rfl ?_
    refine zv_iald hB zd298_17 rfl rfl (by decide) (by decide) (fun _ _ => ?_)
    obtain ⟨r2, hr2, h⟩ := zi_bind h
    refine zv_cs hB (zv_emq (va2 := [.inl (g0 126)]) (F := [.inl f0]) (F' := [.inl f0]) (G := [g0, g1, g2]) (G' := [g0, g1, g2]) (ρ := []) (φ := []) (ψ := []) [none] [none, none, none] zyw_M_bits zyw_M_found zye_M_found (by decide +kernel) (zt_M_bits hr2) trivial trivial rfl rfl rfl rfl rfl rfl rfl) zd298_18 zxt257 rfl (by decide) (by decide) rfl ?_
    refine zv_mulw hB zd298_21 ?_
    refine zv_ald hB zd298_22 rfl rfl rfl ?_
    refine zv_getf hB zd298_23 rfl rfl (fun _ _ => ?_)
    refine zv_cle hB zd298_26 rfl (fun hc3 => ?_) (fun hc3 => ?_)
    · rw [if_neg (Int.not_lt.mpr hc3)] at h
      refine zv_ald hB zd298_31 rfl rfl rfl ?_
      refine zv_con hB zd298_32 rfl ?_
      refine zv_putf hB zd298_33 rfl rfl (fun h => by cases h) rfl ?_
      refine zv_ald hB zd298_36 rfl rfl rfl ?_
      obtain ⟨r4, hr4, h⟩ := zi_bind h
      refine zv_cv hB (zv_emq (va2 := [.inr 0]) (F := [.inl 0]) (F' := [.inl 0]) (G := [g0, g1, g2]) (G' := [g0, r4, g2]) (ρ := [0, 1, 2]) (φ := []) (ψ := [0, 1]) [none] [some 0, some 1, none] zyw_M_begins zyw_M_found zye_M_found (by decide +kernel) (zt_M_begins hr4) trivial ⟨rfl, rfl, trivial⟩ rfl rfl rfl rfl rfl rfl rfl) zd298_37 zxt299 rfl (by decide) (by decide) rfl ?_
      refine zv_ald hB zd298_40 rfl rfl rfl ?_
      obtain ⟨r5, hr5, h⟩ := zi_bind h
      refine zv_cv hB (zv_emq (va2 := [.inr 0]) (F := [.inl 0]) (F' := [.inl 0]) (G := [g0, r4, g2]) (G' := [r5, r4, g2]) (ρ := [0, 1]) (φ := []) (ψ := [0]) [none] [some 0, none, none] zyw_M_walks zyw_M_found zye_M_found (by decide +kernel) (zt_M_walks hr5) trivial ⟨rfl, trivial⟩ rfl rfl rfl rfl rfl rfl rfl) zd298_41 zxt295 rfl (by decide) (by decide) rfl ?_
      refine zv_con hB zd298_44 rfl ?_
      refine zv_ist hB zd298_45 rfl rfl rfl ?_
      refine zv_con hB zd298_46 rfl ?_
      refine zv_ist hB zd298_47 rfl rfl rfl ?_
      refine zv_con hB zd298_48 rfl ?_
      refine zv_ist hB zd298_49 rfl rfl rfl ?_
      obtain ⟨q15, hq15, h⟩ := zi_bind h
      refine l0 _ _ _ _ _ _ _ q15 hq15 ?_
      show good 128 [.inr 0, .inl q15, .inr 1000, .inr 1000] [] [.inl 0] [r5, r4, g2]
      refine zv_ald hB zd298_128 rfl rfl rfl ?_
      obtain ⟨r16, hr16, h⟩ := zi_bind h
      refine zv_cv hB (zv_emq (va2 := [.inr 0]) (F := [.inl 0]) (F' := [.inl 0]) (G := [r5, r4, g2]) (G' := [r16, r4, g2]) (ρ := [0, 2, 1]) (φ := []) (ψ := [1, 0]) [none] [some 1, some 0, none] zyw_M_again zyw_M_found zye_M_found (by decide +kernel) (zt_M_again hr16) trivial ⟨rfl, rfl, trivial⟩ rfl rfl rfl rfl rfl rfl rfl) zd298_129 zxt301 rfl (by decide) (by decide) rfl ?_
      refine zv_ild hB zd298_132 rfl rfl ?_
      have hw := Option.some.inj h
      subst hw
      exact hret _ _ _ _ _ zd298_133 (by trivial) ⟨rfl, rfl, rfl⟩
    · rw [if_pos hc3] at h
      refine zv_con hB zd298_29 rfl ?_
      have hw := Option.some.inj h
      subst hw
      exact hret _ _ _ _ _ zd298_30 (by trivial) ⟨rfl, rfl, rfl⟩
/-! M_goesTo (II)I -/
-- names: 
-- fields: ; arrays: ; out: [('ret', None)]
abbrev zy_M_goesTo : zNL := (0, [], [], [], [])
theorem zyw_M_goesTo : zv_wf zy_M_goesTo = true := by decide +kernel
theorem zye_M_goesTo : zv_ek2 zy_M_goesTo = true := by decide +kernel
def zf_M_goesTo (x0 : Int) (x1 : Int) : Option (Int) := if x1 = 1 then (if (zi_div x0 24) < 0 then (some (-1)) else (if (zi_div x0 24) < 12 then (some (zi_w ((zi_w (24 * (zi_div x0 24))) + (zi_rem (zi_w ((zi_rem x0 24) + 1)) 24)))) else (some (-1)))) else (if x1 = 2 then (if (zi_div x0 24) < 0 then (some (-1)) else (if (zi_div x0 24) < 12 then (some (zi_w ((zi_w (24 * (zi_div x0 24))) + (zi_rem (zi_w ((zi_w ((zi_rem x0 24) + 24)) - 1)) 24)))) else (some (-1)))) else (if x1 = 3 then (if (zi_w ((zi_div x0 24) + 1)) < 0 then (some (-1)) else (if (zi_w ((zi_div x0 24) + 1)) < 12 then (some (zi_w ((zi_w (24 * (zi_w ((zi_div x0 24) + 1)))) + (zi_rem x0 24)))) else (some (-1)))) else (if x1 = 4 then (if (zi_w ((zi_div x0 24) - 1)) < 0 then (some (-1)) else (if (zi_w ((zi_div x0 24) - 1)) < 12 then (some (zi_w ((zi_w (24 * (zi_w ((zi_div x0 24) - 1)))) + (zi_rem x0 24)))) else (some (-1)))) else (if (zi_div x0 24) < 0 then (some (-1)) else (if (zi_div x0 24) < 12 then (some (zi_w ((zi_w (24 * (zi_div x0 24))) + (zi_rem x0 24)))) else (some (-1)))))))
theorem zd304_0 : decode zxm304.2.1 0 = .ok (.iload_n 0, 1) := by decide +kernel
theorem zd304_1 : decode zxm304.2.1 1 = .ok (.bipush 24, 2) := by decide +kernel
theorem zd304_3 : decode zxm304.2.1 3 = .ok (.irem, 1) := by decide +kernel
theorem zd304_4 : decode zxm304.2.1 4 = .ok (.istore_n 2, 1) := by decide +kernel
theorem zd304_5 : decode zxm304.2.1 5 = .ok (.iload_n 0, 1) := by decide +kernel
theorem zd304_6 : decode zxm304.2.1 6 = .ok (.bipush 24, 2) := by decide +kernel
theorem zd304_8 : decode zxm304.2.1 8 = .ok (.idiv, 1) := by decide +kernel
theorem zd304_9 : decode zxm304.2.1 9 = .ok (.istore_n 3, 1) := by decide +kernel
theorem zd304_10 : decode zxm304.2.1 10 = .ok (.iload_n 1, 1) := by decide +kernel
theorem zd304_11 : decode zxm304.2.1 11 = .ok (.iconst 1, 1) := by decide +kernel
theorem zd304_12 : decode zxm304.2.1 12 = .ok (.if_icmp .ne 10, 3) := by decide +kernel
theorem zd304_15 : decode zxm304.2.1 15 = .ok (.iload_n 2, 1) := by decide +kernel
theorem zd304_16 : decode zxm304.2.1 16 = .ok (.iconst 1, 1) := by decide +kernel
theorem zd304_17 : decode zxm304.2.1 17 = .ok (.iadd, 1) := by decide +kernel
theorem zd304_18 : decode zxm304.2.1 18 = .ok (.bipush 24, 2) := by decide +kernel
theorem zd304_20 : decode zxm304.2.1 20 = .ok (.irem, 1) := by decide +kernel
theorem zd304_21 : decode zxm304.2.1 21 = .ok (.istore_n 2, 1) := by decide +kernel
theorem zd304_22 : decode zxm304.2.1 22 = .ok (.iload_n 1, 1) := by decide +kernel
theorem zd304_23 : decode zxm304.2.1 23 = .ok (.iconst 2, 1) := by decide +kernel
theorem zd304_24 : decode zxm304.2.1 24 = .ok (.if_icmp .ne 13, 3) := by decide +kernel
theorem zd304_27 : decode zxm304.2.1 27 = .ok (.iload_n 2, 1) := by decide +kernel
theorem zd304_28 : decode zxm304.2.1 28 = .ok (.bipush 24, 2) := by decide +kernel
theorem zd304_30 : decode zxm304.2.1 30 = .ok (.iadd, 1) := by decide +kernel
theorem zd304_31 : decode zxm304.2.1 31 = .ok (.iconst 1, 1) := by decide +kernel
theorem zd304_32 : decode zxm304.2.1 32 = .ok (.isub, 1) := by decide +kernel
theorem zd304_33 : decode zxm304.2.1 33 = .ok (.bipush 24, 2) := by decide +kernel
theorem zd304_35 : decode zxm304.2.1 35 = .ok (.irem, 1) := by decide +kernel
theorem zd304_36 : decode zxm304.2.1 36 = .ok (.istore_n 2, 1) := by decide +kernel
theorem zd304_37 : decode zxm304.2.1 37 = .ok (.iload_n 1, 1) := by decide +kernel
theorem zd304_38 : decode zxm304.2.1 38 = .ok (.iconst 3, 1) := by decide +kernel
theorem zd304_39 : decode zxm304.2.1 39 = .ok (.if_icmp .ne 7, 3) := by decide +kernel
theorem zd304_42 : decode zxm304.2.1 42 = .ok (.iload_n 3, 1) := by decide +kernel
theorem zd304_43 : decode zxm304.2.1 43 = .ok (.iconst 1, 1) := by decide +kernel
theorem zd304_44 : decode zxm304.2.1 44 = .ok (.iadd, 1) := by decide +kernel
theorem zd304_45 : decode zxm304.2.1 45 = .ok (.istore_n 3, 1) := by decide +kernel
theorem zd304_46 : decode zxm304.2.1 46 = .ok (.iload_n 1, 1) := by decide +kernel
theorem zd304_47 : decode zxm304.2.1 47 = .ok (.iconst 4, 1) := by decide +kernel
theorem zd304_48 : decode zxm304.2.1 48 = .ok (.if_icmp .ne 7, 3) := by decide +kernel
theorem zd304_51 : decode zxm304.2.1 51 = .ok (.iload_n 3, 1) := by decide +kernel
theorem zd304_52 : decode zxm304.2.1 52 = .ok (.iconst 1, 1) := by decide +kernel
theorem zd304_53 : decode zxm304.2.1 53 = .ok (.isub, 1) := by decide +kernel
theorem zd304_54 : decode zxm304.2.1 54 = .ok (.istore_n 3, 1) := by decide +kernel
theorem zd304_55 : decode zxm304.2.1 55 = .ok (.iload_n 3, 1) := by decide +kernel
theorem zd304_56 : decode zxm304.2.1 56 = .ok (.ifCond .lt 9, 3) := by decide +kernel
theorem zd304_59 : decode zxm304.2.1 59 = .ok (.iload_n 3, 1) := by decide +kernel
theorem zd304_60 : decode zxm304.2.1 60 = .ok (.bipush 12, 2) := by decide +kernel
theorem zd304_62 : decode zxm304.2.1 62 = .ok (.if_icmp .lt 7, 3) := by decide +kernel
theorem zd304_65 : decode zxm304.2.1 65 = .ok (.iconst (-1), 1) := by decide +kernel
theorem zd304_66 : decode zxm304.2.1 66 = .ok (.goto 9, 3) := by decide +kernel
theorem zd304_69 : decode zxm304.2.1 69 = .ok (.bipush 24, 2) := by decide +kernel
theorem zd304_71 : decode zxm304.2.1 71 = .ok (.iload_n 3, 1) := by decide +kernel
theorem zd304_72 : decode zxm304.2.1 72 = .ok (.imul, 1) := by decide +kernel
theorem zd304_73 : decode zxm304.2.1 73 = .ok (.iload_n 2, 1) := by decide +kernel
theorem zd304_74 : decode zxm304.2.1 74 = .ok (.iadd, 1) := by decide +kernel
theorem zd304_75 : decode zxm304.2.1 75 = .ok (.ireturn, 1) := by decide +kernel
theorem zt_M_goesTo {x0 : Int} {x1 : Int} {o : Int} (h : zf_M_goesTo x0 x1 = some o) : zv_Fn z_TB z_cl z_KX zy_M_goesTo zxm304 (0, 0) [.inl x0, .inl x1] [] [] (some o) [] [] := zv_meth (K := (z_KF13, z_KC13, z_KL13, z_KT13, [], [], [], none)) (FT := z_FT) (MT := z_MT) (n := 2) zxp304 (z_ks13 _ (fun _ h => List.mem_cons_of_mem _ h) _ _ _ _ (fun j r h _ => by cases h)) (fun _ _ => zs_KX_p) zyw_M_goesTo (fun va F G h => by obtain ⟨rfl, _⟩ := h; rfl) (fun va F G h => by obtain ⟨rfl, _⟩ := h; rfl) rfl fun good va F G hB hret hvret hP => by
  obtain ⟨rfl, rfl, rfl⟩ := hP
  unfold zf_M_goesTo at h
  refine zv_ild hB zd304_0 rfl rfl ?_
  refine zv_con hB zd304_1 rfl ?_
  refine zv_remw hB zd304_3 (by decide) ?_
  refine zv_ist hB zd304_4 rfl rfl rfl ?_
  refine zv_ild hB zd304_5 rfl rfl ?_
  refine zv_con hB zd304_6 rfl ?_
  refine zv_divw hB zd304_8 (by decide) ?_
  refine zv_ist hB zd304_9 rfl rfl rfl ?_
  refine zv_ild hB zd304_10 rfl rfl ?_
  refine zv_con hB zd304_11 rfl ?_
  refine zv_cne hB zd304_12 rfl (fun hc1 => ?_) (fun hc1 => ?_)
  · rw [if_neg hc1] at h
    refine zv_ild hB zd304_22 rfl rfl ?_
    refine zv_con hB zd304_23 rfl ?_
    refine zv_cne hB zd304_24 rfl (fun hc2 => ?_) (fun hc2 => ?_)
    · rw [if_neg hc2] at h
      refine zv_ild hB zd304_37 rfl rfl ?_
      refine zv_con hB zd304_38 rfl ?_
      refine zv_cne hB zd304_39 rfl (fun hc3 => ?_) (fun hc3 => ?_)
      · rw [if_neg hc3] at h
        refine zv_ild hB zd304_46 rfl rfl ?_
        refine zv_con hB zd304_47 rfl ?_
        refine zv_cne hB zd304_48 rfl (fun hc4 => ?_) (fun hc4 => ?_)
        · rw [if_neg hc4] at h
          refine zv_ild hB zd304_55 rfl rfl ?_
          refine zv_zlt hB zd304_56 rfl (fun hc5 => ?_) (fun hc5 => ?_)
          · rw [if_pos hc5] at h
            refine zv_con hB zd304_65 rfl ?_
            refine zv_goto hB zd304_66 rfl ?_
            have hw := Option.some.inj h
            subst hw
            exact hret _ _ _ _ _ zd304_75 (by trivial) ⟨rfl, rfl, rfl⟩
          · rw [if_neg (Int.not_lt.mpr hc5)] at h
            refine zv_ild hB zd304_59 rfl rfl ?_
            refine zv_con hB zd304_60 rfl ?_
            refine zv_clt hB zd304_62 rfl (fun hc6 => ?_) (fun hc6 => ?_)
            · rw [if_pos hc6] at h
              refine zv_con hB zd304_69 rfl ?_
              refine zv_ild hB zd304_71 rfl rfl ?_
              refine zv_mulw hB zd304_72 ?_
              refine zv_ild hB zd304_73 rfl rfl ?_
              refine zv_addw hB zd304_74 ?_
              have hw := Option.some.inj h
              subst hw
              exact hret _ _ _ _ _ zd304_75 (by trivial) ⟨rfl, rfl, rfl⟩
            · rw [if_neg (Int.not_lt.mpr hc6)] at h
              refine zv_con hB zd304_65 rfl ?_
              refine zv_goto hB zd304_66 rfl ?_
              have hw := Option.some.inj h
              subst hw
              exact hret _ _ _ _ _ zd304_75 (by trivial) ⟨rfl, rfl, rfl⟩
        · rw [if_pos hc4] at h
          refine zv_ild hB zd304_51 rfl rfl ?_
          refine zv_con hB zd304_52 rfl ?_
          refine zv_subw hB zd304_53 ?_
          refine zv_ist hB zd304_54 rfl rfl rfl ?_
          refine zv_ild hB zd304_55 rfl rfl ?_
          refine zv_zlt hB zd304_56 rfl (fun hc7 => ?_) (fun hc7 => ?_)
          · rw [if_pos hc7] at h
            refine zv_con hB zd304_65 rfl ?_
            refine zv_goto hB zd304_66 rfl ?_
            have hw := Option.some.inj h
            subst hw
            exact hret _ _ _ _ _ zd304_75 (by trivial) ⟨rfl, rfl, rfl⟩
          · rw [if_neg (Int.not_lt.mpr hc7)] at h
            refine zv_ild hB zd304_59 rfl rfl ?_
            refine zv_con hB zd304_60 rfl ?_
            refine zv_clt hB zd304_62 rfl (fun hc8 => ?_) (fun hc8 => ?_)
            · rw [if_pos hc8] at h
              refine zv_con hB zd304_69 rfl ?_
              refine zv_ild hB zd304_71 rfl rfl ?_
              refine zv_mulw hB zd304_72 ?_
              refine zv_ild hB zd304_73 rfl rfl ?_
              refine zv_addw hB zd304_74 ?_
              have hw := Option.some.inj h
              subst hw
              exact hret _ _ _ _ _ zd304_75 (by trivial) ⟨rfl, rfl, rfl⟩
            · rw [if_neg (Int.not_lt.mpr hc8)] at h
              refine zv_con hB zd304_65 rfl ?_
              refine zv_goto hB zd304_66 rfl ?_
              have hw := Option.some.inj h
              subst hw
              exact hret _ _ _ _ _ zd304_75 (by trivial) ⟨rfl, rfl, rfl⟩
      · rw [if_pos hc3] at h
        refine zv_ild hB zd304_42 rfl rfl ?_
        refine zv_con hB zd304_43 rfl ?_
        refine zv_addw hB zd304_44 ?_
        refine zv_ist hB zd304_45 rfl rfl rfl ?_
        refine zv_ild hB zd304_46 rfl rfl ?_
        refine zv_con hB zd304_47 rfl ?_
        refine zv_cne hB zd304_48 rfl (fun _ => ?_) (fun hc => absurd hc (by omega))
        refine zv_ild hB zd304_55 rfl rfl ?_
        refine zv_zlt hB zd304_56 rfl (fun hc10 => ?_) (fun hc10 => ?_)
        · rw [if_pos hc10] at h
          refine zv_con hB zd304_65 rfl ?_
          refine zv_goto hB zd304_66 rfl ?_
          have hw := Option.some.inj h
          subst hw
          exact hret _ _ _ _ _ zd304_75 (by trivial) ⟨rfl, rfl, rfl⟩
        · rw [if_neg (Int.not_lt.mpr hc10)] at h
          refine zv_ild hB zd304_59 rfl rfl ?_
          refine zv_con hB zd304_60 rfl ?_
          refine zv_clt hB zd304_62 rfl (fun hc11 => ?_) (fun hc11 => ?_)
          · rw [if_pos hc11] at h
            refine zv_con hB zd304_69 rfl ?_
            refine zv_ild hB zd304_71 rfl rfl ?_
            refine zv_mulw hB zd304_72 ?_
            refine zv_ild hB zd304_73 rfl rfl ?_
            refine zv_addw hB zd304_74 ?_
            have hw := Option.some.inj h
            subst hw
            exact hret _ _ _ _ _ zd304_75 (by trivial) ⟨rfl, rfl, rfl⟩
          · rw [if_neg (Int.not_lt.mpr hc11)] at h
            refine zv_con hB zd304_65 rfl ?_
            refine zv_goto hB zd304_66 rfl ?_
            have hw := Option.some.inj h
            subst hw
            exact hret _ _ _ _ _ zd304_75 (by trivial) ⟨rfl, rfl, rfl⟩
    · rw [if_pos hc2] at h
      refine zv_ild hB zd304_27 rfl rfl ?_
      refine zv_con hB zd304_28 rfl ?_
      refine zv_addw hB zd304_30 ?_
      refine zv_con hB zd304_31 rfl ?_
      refine zv_subw hB zd304_32 ?_
      refine zv_con hB zd304_33 rfl ?_
      refine zv_remw hB zd304_35 (by decide) ?_
      refine zv_ist hB zd304_36 rfl rfl rfl ?_
      refine zv_ild hB zd304_37 rfl rfl ?_
      refine zv_con hB zd304_38 rfl ?_
      refine zv_cne hB zd304_39 rfl (fun _ => ?_) (fun hc => absurd hc (by omega))
      refine zv_ild hB zd304_46 rfl rfl ?_
      refine zv_con hB zd304_47 rfl ?_
      refine zv_cne hB zd304_48 rfl (fun _ => ?_) (fun hc => absurd hc (by omega))
      refine zv_ild hB zd304_55 rfl rfl ?_
      refine zv_zlt hB zd304_56 rfl (fun hc14 => ?_) (fun hc14 => ?_)
      · rw [if_pos hc14] at h
        refine zv_con hB zd304_65 rfl ?_
        refine zv_goto hB zd304_66 rfl ?_
        have hw := Option.some.inj h
        subst hw
        exact hret _ _ _ _ _ zd304_75 (by trivial) ⟨rfl, rfl, rfl⟩
      · rw [if_neg (Int.not_lt.mpr hc14)] at h
        refine zv_ild hB zd304_59 rfl rfl ?_
        refine zv_con hB zd304_60 rfl ?_
        refine zv_clt hB zd304_62 rfl (fun hc15 => ?_) (fun hc15 => ?_)
        · rw [if_pos hc15] at h
          refine zv_con hB zd304_69 rfl ?_
          refine zv_ild hB zd304_71 rfl rfl ?_
          refine zv_mulw hB zd304_72 ?_
          refine zv_ild hB zd304_73 rfl rfl ?_
          refine zv_addw hB zd304_74 ?_
          have hw := Option.some.inj h
          subst hw
          exact hret _ _ _ _ _ zd304_75 (by trivial) ⟨rfl, rfl, rfl⟩
        · rw [if_neg (Int.not_lt.mpr hc15)] at h
          refine zv_con hB zd304_65 rfl ?_
          refine zv_goto hB zd304_66 rfl ?_
          have hw := Option.some.inj h
          subst hw
          exact hret _ _ _ _ _ zd304_75 (by trivial) ⟨rfl, rfl, rfl⟩
  · rw [if_pos hc1] at h
    refine zv_ild hB zd304_15 rfl rfl ?_
    refine zv_con hB zd304_16 rfl ?_
    refine zv_addw hB zd304_17 ?_
    refine zv_con hB zd304_18 rfl ?_
    refine zv_remw hB zd304_20 (by decide) ?_
    refine zv_ist hB zd304_21 rfl rfl rfl ?_
    refine zv_ild hB zd304_22 rfl rfl ?_
    refine zv_con hB zd304_23 rfl ?_
    refine zv_cne hB zd304_24 rfl (fun _ => ?_) (fun hc => absurd hc (by omega))
    refine zv_ild hB zd304_37 rfl rfl ?_
    refine zv_con hB zd304_38 rfl ?_
    refine zv_cne hB zd304_39 rfl (fun _ => ?_) (fun hc => absurd hc (by omega))
    refine zv_ild hB zd304_46 rfl rfl ?_
    refine zv_con hB zd304_47 rfl ?_
    refine zv_cne hB zd304_48 rfl (fun _ => ?_) (fun hc => absurd hc (by omega))
    refine zv_ild hB zd304_55 rfl rfl ?_
    refine zv_zlt hB zd304_56 rfl (fun hc19 => ?_) (fun hc19 => ?_)
    · rw [if_pos hc19] at h
      refine zv_con hB zd304_65 rfl ?_
      refine zv_goto hB zd304_66 rfl ?_
      have hw := Option.some.inj h
      subst hw
      exact hret _ _ _ _ _ zd304_75 (by trivial) ⟨rfl, rfl, rfl⟩
    · rw [if_neg (Int.not_lt.mpr hc19)] at h
      refine zv_ild hB zd304_59 rfl rfl ?_
      refine zv_con hB zd304_60 rfl ?_
      refine zv_clt hB zd304_62 rfl (fun hc20 => ?_) (fun hc20 => ?_)
      · rw [if_pos hc20] at h
        refine zv_con hB zd304_69 rfl ?_
        refine zv_ild hB zd304_71 rfl rfl ?_
        refine zv_mulw hB zd304_72 ?_
        refine zv_ild hB zd304_73 rfl rfl ?_
        refine zv_addw hB zd304_74 ?_
        have hw := Option.some.inj h
        subst hw
        exact hret _ _ _ _ _ zd304_75 (by trivial) ⟨rfl, rfl, rfl⟩
      · rw [if_neg (Int.not_lt.mpr hc20)] at h
        refine zv_con hB zd304_65 rfl ?_
        refine zv_goto hB zd304_66 rfl ?_
        have hw := Option.some.inj h
        subst hw
        exact hret _ _ _ _ _ zd304_75 (by trivial) ⟨rfl, rfl, rfl⟩
end
section
/-! Methods as functions, and that they do what these do. -/
/-! M_sails_288 (I[I)V -/
-- names: 0 StarTalesModel('arg', 0), 1 (0, 288)('arg', 2), 2 (0, 288)(0, 12, 54), 3 (0, 422)(0, 12, 0)
-- fields: ; arrays: g0 = 1, g1 = 2, g2 = 3; out: [('g', 0), ('g', 1)]
abbrev zy_M_sails_288 : zNL := (4, [(0, 12)], [], [(0, 12, 54, 2), (0, 12, 0, 3)], [(1, 0, 288, 0), (2, 0, 288, 1), (3, 0, 422, 2)])
theorem zyw_M_sails_288 : zv_wf zy_M_sails_288 = true := by decide +kernel
theorem zye_M_sails_288 : zv_ek2 zy_M_sails_288 = true := by decide +kernel
def zf_M_sails_288_l0_b (rec : Int → (Int → Int) → Option ((Int → Int))) (x3 : Int) (g0 : (Int → Int)) : Option ((Int → Int)) := if x3 < 288 then (cond (zi_ix x3 288) (rec (zi_w (x3 + 1)) (zv_up g0 x3 1000000000)) none) else (some g0)
def zf_M_sails_288_l0 : Nat → Int → (Int → Int) → Option ((Int → Int))
  | 0, _, _ => none
  | n + 1, x3, g0 => zf_M_sails_288_l0_b (zf_M_sails_288_l0 n) x3 g0
def zf_M_sails_288_l2_b (x4 : Int) (g2 : (Int → Int)) (rec : Int → Int → (Int → Int) → (Int → Int) → Option (Int × (Int → Int) × (Int → Int))) (x3 : Int) (x5 : Int) (g0 : (Int → Int)) (g1 : (Int → Int)) : Option (Int × (Int → Int) × (Int → Int)) := if 4 < x5 then (some (x3, g0, g1)) else (cond (zi_ix x4 288) ((zf_M_goesTo (g1 x4) x5).bind fun r8 => (if r8 = (-1) then (rec x3 (zi_w (x5 + 1)) g0 g1) else ((zf_M_isLand r8 g2).bind fun r10 => (if r10 = 0 then (cond (zi_ix r8 288) (if (g0 r8) < 1000000000 then (rec x3 (zi_w (x5 + 1)) g0 g1) else (cond (zi_ix (g1 x4) 288) (cond (zi_ix x3 288) (rec (zi_w (x3 + 1)) (zi_w (x5 + 1)) (zv_up g0 r8 (zi_w ((g0 (g1 x4)) + 1))) (zv_up g1 x3 r8)) none) none)) none) else (rec x3 (zi_w (x5 + 1)) g0 g1))))) none)
def zf_M_sails_288_l2 (x4 : Int) (g2 : (Int → Int)) : Nat → Int → Int → (Int → Int) → (Int → Int) → Option (Int × (Int → Int) × (Int → Int))
  | 0, _, _, _, _ => none
  | n + 1, x3, x5, g0, g1 => zf_M_sails_288_l2_b x4 g2 (zf_M_sails_288_l2 x4 g2 n) x3 x5 g0 g1
def zf_M_sails_288_l1_b (g2 : (Int → Int)) (rec : Int → Int → (Int → Int) → (Int → Int) → Option ((Int → Int) × (Int → Int))) (x3 : Int) (x4 : Int) (g0 : (Int → Int)) (g1 : (Int → Int)) : Option ((Int → Int) × (Int → Int)) := if x4 < x3 then ((zf_M_sails_288_l2 x4 g2 zi_fu x3 1 g0 g1).bind fun q16 => (rec q16.1 (zi_w (x4 + 1)) q16.2.1 q16.2.2)) else (some (g0, g1))
def zf_M_sails_288_l1 (g2 : (Int → Int)) : Nat → Int → Int → (Int → Int) → (Int → Int) → Option ((Int → Int) × (Int → Int))
  | 0, _, _, _, _ => none
  | n + 1, x3, x4, g0, g1 => zf_M_sails_288_l1_b g2 (zf_M_sails_288_l1 g2 n) x3 x4 g0 g1
def zf_M_sails_288 (x1 : Int) (g0 : (Int → Int)) (g1 : (Int → Int)) (g2 : (Int → Int)) : Option ((Int → Int) × (Int → Int)) := (zf_M_sails_288_l0 zi_fu 0 g0).bind fun q3 => (cond (zi_ix x1 288) ((zf_M_sails_288_l1 g2 zi_fu 1 0 (zv_up q3 x1 0) (zv_up g1 0 x1)).bind fun q17 => (some (q17.1, q17.2))) none)
theorem zd303_0 : decode zxm303.2.1 0 = .ok (.iconst 0, 1) := by decide +kernel
theorem zd303_1 : decode zxm303.2.1 1 = .ok (.istore_n 3, 1) := by decide +kernel
theorem zd303_2 : decode zxm303.2.1 2 = .ok (.iload_n 3, 1) := by decide +kernel
theorem zd303_3 : decode zxm303.2.1 3 = .ok (.sipush 288, 3) := by decide +kernel
theorem zd303_6 : decode zxm303.2.1 6 = .ok (.if_icmp .ge 15, 3) := by decide +kernel
theorem zd303_9 : decode zxm303.2.1 9 = .ok (.aload_n 2, 1) := by decide +kernel
theorem zd303_10 : decode zxm303.2.1 10 = .ok (.iload_n 3, 1) := by decide +kernel
theorem zd303_11 : decode zxm303.2.1 11 = .ok (.ldc_w 391, 3) := by decide +kernel
theorem zd303_14 : decode zxm303.2.1 14 = .ok (.iastore, 1) := by decide +kernel
theorem zd303_15 : decode zxm303.2.1 15 = .ok (.iinc 3 1, 3) := by decide +kernel
theorem zd303_18 : decode zxm303.2.1 18 = .ok (.goto (-16), 3) := by decide +kernel
theorem zd303_21 : decode zxm303.2.1 21 = .ok (.aload_n 2, 1) := by decide +kernel
theorem zd303_22 : decode zxm303.2.1 22 = .ok (.iload_n 1, 1) := by decide +kernel
theorem zd303_23 : decode zxm303.2.1 23 = .ok (.iconst 0, 1) := by decide +kernel
theorem zd303_24 : decode zxm303.2.1 24 = .ok (.iastore, 1) := by decide +kernel
theorem zd303_25 : decode zxm303.2.1 25 = .ok (.aload_n 0, 1) := by decide +kernel
theorem zd303_26 : decode zxm303.2.1 26 = .ok (.getfield 119, 3) := by decide +kernel
theorem zd303_29 : decode zxm303.2.1 29 = .ok (.iconst 0, 1) := by decide +kernel
theorem zd303_30 : decode zxm303.2.1 30 = .ok (.iload_n 1, 1) := by decide +kernel
theorem zd303_31 : decode zxm303.2.1 31 = .ok (.iastore, 1) := by decide +kernel
theorem zd303_32 : decode zxm303.2.1 32 = .ok (.iconst 1, 1) := by decide +kernel
theorem zd303_33 : decode zxm303.2.1 33 = .ok (.istore_n 3, 1) := by decide +kernel
theorem zd303_34 : decode zxm303.2.1 34 = .ok (.iconst 0, 1) := by decide +kernel
theorem zd303_35 : decode zxm303.2.1 35 = .ok (.istore 4, 2) := by decide +kernel
theorem zd303_37 : decode zxm303.2.1 37 = .ok (.iload 4, 2) := by decide +kernel
theorem zd303_39 : decode zxm303.2.1 39 = .ok (.iload_n 3, 1) := by decide +kernel
theorem zd303_40 : decode zxm303.2.1 40 = .ok (.if_icmp .ge 93, 3) := by decide +kernel
theorem zd303_43 : decode zxm303.2.1 43 = .ok (.iconst 1, 1) := by decide +kernel
theorem zd303_44 : decode zxm303.2.1 44 = .ok (.istore 5, 2) := by decide +kernel
theorem zd303_46 : decode zxm303.2.1 46 = .ok (.iload 5, 2) := by decide +kernel
theorem zd303_48 : decode zxm303.2.1 48 = .ok (.iconst 4, 1) := by decide +kernel
theorem zd303_49 : decode zxm303.2.1 49 = .ok (.if_icmp .gt 78, 3) := by decide +kernel
theorem zd303_52 : decode zxm303.2.1 52 = .ok (.aload_n 0, 1) := by decide +kernel
theorem zd303_53 : decode zxm303.2.1 53 = .ok (.getfield 119, 3) := by decide +kernel
theorem zd303_56 : decode zxm303.2.1 56 = .ok (.iload 4, 2) := by decide +kernel
theorem zd303_58 : decode zxm303.2.1 58 = .ok (.iaload, 1) := by decide +kernel
theorem zd303_59 : decode zxm303.2.1 59 = .ok (.iload 5, 2) := by decide +kernel
theorem zd303_61 : decode zxm303.2.1 61 = .ok (.invokestatic 440, 3) := by decide +kernel
theorem zd303_64 : decode zxm303.2.1 64 = .ok (.istore 6, 2) := by decide +kernel
theorem zd303_66 : decode zxm303.2.1 66 = .ok (.iload 6, 2) := by decide +kernel
theorem zd303_68 : decode zxm303.2.1 68 = .ok (.iconst (-1), 1) := by decide +kernel
theorem zd303_69 : decode zxm303.2.1 69 = .ok (.if_icmp .eq 52, 3) := by decide +kernel
theorem zd303_72 : decode zxm303.2.1 72 = .ok (.aload_n 0, 1) := by decide +kernel
theorem zd303_73 : decode zxm303.2.1 73 = .ok (.iload 6, 2) := by decide +kernel
theorem zd303_75 : decode zxm303.2.1 75 = .ok (.invokevirtual 165, 3) := by decide +kernel
theorem zd303_78 : decode zxm303.2.1 78 = .ok (.ifCond .ne 43, 3) := by decide +kernel
theorem zd303_81 : decode zxm303.2.1 81 = .ok (.aload_n 2, 1) := by decide +kernel
theorem zd303_82 : decode zxm303.2.1 82 = .ok (.iload 6, 2) := by decide +kernel
theorem zd303_84 : decode zxm303.2.1 84 = .ok (.iaload, 1) := by decide +kernel
theorem zd303_85 : decode zxm303.2.1 85 = .ok (.ldc_w 391, 3) := by decide +kernel
theorem zd303_88 : decode zxm303.2.1 88 = .ok (.if_icmp .ge 6, 3) := by decide +kernel
theorem zd303_91 : decode zxm303.2.1 91 = .ok (.goto 30, 3) := by decide +kernel
theorem zd303_94 : decode zxm303.2.1 94 = .ok (.aload_n 2, 1) := by decide +kernel
theorem zd303_95 : decode zxm303.2.1 95 = .ok (.iload 6, 2) := by decide +kernel
theorem zd303_97 : decode zxm303.2.1 97 = .ok (.aload_n 2, 1) := by decide +kernel
theorem zd303_98 : decode zxm303.2.1 98 = .ok (.aload_n 0, 1) := by decide +kernel
theorem zd303_99 : decode zxm303.2.1 99 = .ok (.getfield 119, 3) := by decide +kernel
theorem zd303_102 : decode zxm303.2.1 102 = .ok (.iload 4, 2) := by decide +kernel
theorem zd303_104 : decode zxm303.2.1 104 = .ok (.iaload, 1) := by decide +kernel
theorem zd303_105 : decode zxm303.2.1 105 = .ok (.iaload, 1) := by decide +kernel
theorem zd303_106 : decode zxm303.2.1 106 = .ok (.iconst 1, 1) := by decide +kernel
theorem zd303_107 : decode zxm303.2.1 107 = .ok (.iadd, 1) := by decide +kernel
theorem zd303_108 : decode zxm303.2.1 108 = .ok (.iastore, 1) := by decide +kernel
theorem zd303_109 : decode zxm303.2.1 109 = .ok (.aload_n 0, 1) := by decide +kernel
theorem zd303_110 : decode zxm303.2.1 110 = .ok (.getfield 119, 3) := by decide +kernel
theorem zd303_113 : decode zxm303.2.1 113 = .ok (.iload_n 3, 1) := by decide +kernel
theorem zd303_114 : decode zxm303.2.1 114 = .ok (.iload 6, 2) := by decide +kernel
theorem zd303_116 : decode zxm303.2.1 116 = .ok (.iastore, 1) := by decide +kernel
theorem zd303_117 : decode zxm303.2.1 117 = .ok (.iload_n 3, 1) := by decide +kernel
theorem zd303_118 : decode zxm303.2.1 118 = .ok (.iconst 1, 1) := by decide +kernel
theorem zd303_119 : decode zxm303.2.1 119 = .ok (.iadd, 1) := by decide +kernel
theorem zd303_120 : decode zxm303.2.1 120 = .ok (.istore_n 3, 1) := by decide +kernel
theorem zd303_121 : decode zxm303.2.1 121 = .ok (.iinc 5 1, 3) := by decide +kernel
theorem zd303_124 : decode zxm303.2.1 124 = .ok (.goto (-78), 3) := by decide +kernel
theorem zd303_127 : decode zxm303.2.1 127 = .ok (.iinc 4 1, 3) := by decide +kernel
theorem zd303_130 : decode zxm303.2.1 130 = .ok (.goto (-93), 3) := by decide +kernel
theorem zd303_133 : decode zxm303.2.1 133 = .ok (.return_, 1) := by decide +kernel
theorem zt_M_sails_288 {x1 : Int} {g0 : (Int → Int)} {g1 : (Int → Int)} {g2 : (Int → Int)} {o : (Int → Int) × (Int → Int)} (h : zf_M_sails_288 x1 g0 g1 g2 = some o) : zv_Fn z_TB z_cl z_KX zy_M_sails_288 zxm303 (1, 60) [.inr 0, .inl x1, .inr 1] [] [g0, g1, g2] none [] [o.1, o.2, g2] := zv_meth (K := (z_KF13, z_KC13, z_KL13, z_KT13, [], [], [], none)) (FT := z_FT) (MT := z_MT) (n := 3) zxp303 (z_ks13 _ (fun _ h => List.mem_cons_of_mem _ h) _ _ _ _ (fun j r h _ => by cases h)) (fun _ _ => zs_KX_p) zyw_M_sails_288 (fun va F G h => by obtain ⟨rfl, _⟩ := h; rfl) (fun va F G h => by obtain ⟨rfl, _⟩ := h; rfl) rfl fun good va F G hB hret hvret hP => by
  obtain ⟨rfl, rfl, rfl⟩ := hP
  have l0 : ∀ (n : Nat) (x1 : Int) (x3 : Int) (g0 : (Int → Int)) (g1 : (Int → Int)) (q : (Int → Int)), zf_M_sails_288_l0 n x3 g0 = some q → (good 21 [.inr 0, .inl x1, .inr 1, .inr 1000, .inr 1000, .inr 1000, .inr 1000] [] [] [q, g1, g2]) → good 2 [.inr 0, .inl x1, .inr 1, .inl x3, .inr 1000, .inr 1000, .inr 1000] [] [] [g0, g1, g2] := by
    intro n
    induction n with
    | zero => intro x1 x3 g0 g1 q h; exact absurd (show none = some q from h) (fun h => by cases h)
    | succ n ih =>
      intro x1 x3 g0 g1 q h hK
      replace h : zf_M_sails_288_l0_b (zf_M_sails_288_l0 n) x3 g0 = some q := h
      unfold zf_M_sails_288_l0_b at h
      refine zv_ild hB zd303_2 rfl rfl ?_
      refine zv_con hB zd303_3 rfl ?_
      refine zv_cge hB zd303_6 rfl (fun hc1 => ?_) (fun hc1 => ?_)
      · rw [if_neg (Int.not_lt.mpr hc1)] at h
        have hq := Option.some.inj h
        subst hq
        refine zv_wk hB (L' := [.inr 0, .inl x1, .inr 1, .inr 1000, .inr 1000, .inr 1000, .inr 1000]) (F' := []) ⟨fun _ => rfl, fun _ => rfl, fun _ => rfl, fun (h : zv_is (.inr 1000)) => (Nat.lt_irrefl 1000 h).elim, fun (h : zv_is (.inr 1000)) => (Nat.lt_irrefl 1000 h).elim, fun (h : zv_is (.inr 1000)) => (Nat.lt_irrefl 1000 h).elim, fun (h : zv_is (.inr 1000)) => (Nat.lt_irrefl 1000 h).elim, trivial⟩ trivial ?_
        exact hK
      · rw [if_pos hc1] at h
        refine zv_ald hB zd303_9 rfl rfl rfl ?_
        refine zv_ild hB zd303_10 rfl rfl ?_
        refine zv_con (n := 1000000000) hB zd303_11 (by decide +kernel) ?_
        obtain ⟨c2, h⟩ := zi_if h
        refine zv_iast hB zd303_14 rfl rfl (zi_ix_ok c2).1 (zi_ix_ok c2).2 ?_
        refine zv_iincw hB zd303_15 rfl rfl ?_
        refine zv_goto hB zd303_18 rfl ?_
        exact ih _ _ _ _ q h hK
  have l2 : ∀ (n : Nat) (x3 : Int) (x4 : Int) (x5 : Int) (g0 : (Int → Int)) (g1 : (Int → Int)) (q : Int × (Int → Int) × (Int → Int)), zf_M_sails_288_l2 x4 g2 n x3 x5 g0 g1 = some q → (good 127 [.inr 0, .inr 1000, .inr 1, .inl q.1, .inl x4, .inr 1000, .inr 1000] [] [] [q.2.1, q.2.2, g2]) → good 46 [.inr 0, .inr 1000, .inr 1, .inl x3, .inl x4, .inl x5, .inr 1000] [] [] [g0, g1, g2] := by
    intro n
    induction n with
    | zero => intro x3 x4 x5 g0 g1 q h; exact absurd (show none = some q from h) (fun h => by cases h)
    | succ n ih =>
      intro x3 x4 x5 g0 g1 q h hK
      replace h : zf_M_sails_288_l2_b x4 g2 (zf_M_sails_288_l2 x4 g2 n) x3 x5 g0 g1 = some q := h
      unfold zf_M_sails_288_l2_b at h
      refine zv_ild hB zd303_46 rfl rfl ?_
      refine zv_con hB zd303_48 rfl ?_
      refine zv_cgt hB zd303_49 rfl (fun hc6 => ?_) (fun hc6 => ?_)
      · rw [if_pos hc6] at h
        have hq := Option.some.inj h
        subst hq
        refine zv_wk hB (L' := [.inr 0, .inr 1000, .inr 1, .inl x3, .inl x4, .inr 1000, .inr 1000]) (F' := []) ⟨fun _ => rfl, fun (h : zv_is (.inr 1000)) => (Nat.lt_irrefl 1000 h).elim, fun _ => rfl, fun _ => rfl, fun _ => rfl, fun (h : zv_is (.inr 1000)) => (Nat.lt_irrefl 1000 h).elim, fun (h : zv_is (.inr 1000)) => (Nat.lt_irrefl 1000 h).elim, trivial⟩ trivial ?_
        exact hK
      · rw [if_neg (Int.not_lt.mpr hc6)] at h
        refine zv_ald hB zd303_52 rfl rfl rfl ?_
        refine zv_getr hB zd303_53 rfl ?_
        refine zv_ild hB zd303_56 rfl rfl ?_
        obtain ⟨c7, h⟩ := zi_if h
        refine zv_iald hB zd303_58 rfl rfl (zi_ix_ok c7).1 (zi_ix_ok c7).2 (fun _ _ => ?_)
        refine zv_ild hB zd303_59 rfl rfl ?_
        obtain ⟨r8, hr8, h⟩ := zi_bind h
        refine zv_cs hB (zv_emq (va2 := [.inl (g1 x4), .inl x5]) (F := []) (F' := []) (G := [g0, g1, g2]) (G' := [g0, g1, g2]) (ρ := []) (φ := []) (ψ := []) [] [none, none, none] zyw_M_goesTo zyw_M_sails_288 zye_M_sails_288 (by decide +kernel) (zt_M_goesTo hr8) trivial trivial rfl rfl rfl rfl rfl rfl rfl) zd303_61 zxt304 rfl (by decide) (by decide) rfl ?_
        refine zv_ist hB zd303_64 rfl rfl rfl ?_
        refine zv_ild hB zd303_66 rfl rfl ?_
        refine zv_con hB zd303_68 rfl ?_
        refine zv_ceq hB zd303_69 rfl (fun hc9 => ?_) (fun hc9 => ?_)
        · rw [if_pos hc9] at h
          refine zv_iincw hB zd303_121 rfl rfl ?_
          refine zv_goto hB zd303_124 rfl ?_
          refine zv_wk hB (L' := [.inr 0, .inr 1000, .inr 1, .inl x3, .inl x4, .inl (zi_w (x5 + 1)), .inr 1000]) (F' := []) ⟨fun _ => rfl, fun (h : zv_is (.inr 1000)) => (Nat.lt_irrefl 1000 h).elim, fun _ => rfl, fun _ => rfl, fun _ => rfl, fun _ => rfl, fun (h : zv_is (.inr 1000)) => (Nat.lt_irrefl 1000 h).elim, trivial⟩ trivial ?_
          exact ih _ _ _ _ _ q h hK
        · rw [if_neg hc9] at h
          refine zv_ald hB zd303_72 rfl rfl rfl ?_
          refine zv_ild hB zd303_73 rfl rfl ?_
          obtain ⟨r10, hr10, h⟩ := zi_bind h
          refine zv_cv hB (zv_emq (va2 := [.inr 0, .inl r8]) (F := []) (F' := []) (G := [g0, g1, g2]) (G' := [g0, g1, g2]) (ρ := [0, 3]) (φ := []) (ψ := [2]) [] [none, none, some 0] zyw_M_isLand zyw_M_sails_288 zye_M_sails_288 (by decide +kernel) (zt_M_isLand hr10) trivial ⟨rfl, trivial⟩ rfl rfl rfl rfl rfl rfl rfl) zd303_75 zxt212 rfl (by decide) (by decide) rfl ?_
          refine zv_zne hB zd303_78 rfl (fun hc11 => ?_) (fun hc11 => ?_)
          · rw [if_neg hc11] at h
            refine zv_iincw hB zd303_121 rfl rfl ?_
            refine zv_goto hB zd303_124 rfl ?_
            refine zv_wk hB (L' := [.inr 0, .inr 1000, .inr 1, .inl x3, .inl x4, .inl (zi_w (x5 + 1)), .inr 1000]) (F' := []) ⟨fun _ => rfl, fun (h : zv_is (.inr 1000)) => (Nat.lt_irrefl 1000 h).elim, fun _ => rfl, fun _ => rfl, fun _ => rfl, fun _ => rfl, fun (h : zv_is (.inr 1000)) => (Nat.lt_irrefl 1000 h).elim, trivial⟩ trivial ?_
            exact ih _ _ _ _ _ q h hK
          · rw [if_pos hc11] at h
            refine zv_ald hB zd303_81 rfl rfl rfl ?_
            refine zv_ild hB zd303_82 rfl rfl ?_
            obtain ⟨c12, h⟩ := zi_if h
            refine zv_iald hB zd303_84 rfl rfl (zi_ix_ok c12).1 (zi_ix_ok c12).2 (fun _ _ => ?_)
            refine zv_con (n := 1000000000) hB zd303_85 (by decide +kernel) ?_
            refine zv_cge hB zd303_88 rfl (fun hc13 => ?_) (fun hc13 => ?_)
            · rw [if_neg (Int.not_lt.mpr hc13)] at h
              refine zv_ald hB zd303_94 rfl rfl rfl ?_
              refine zv_ild hB zd303_95 rfl rfl ?_
              refine zv_ald hB zd303_97 rfl rfl rfl ?_
              refine zv_ald hB zd303_98 rfl rfl rfl ?_
              refine zv_getr hB zd303_99 rfl ?_
              refine zv_ild hB zd303_102 rfl rfl ?_
              refine zv_iald hB zd303_104 rfl rfl (zi_ix_ok c7).1 (zi_ix_ok c7).2 (fun _ _ => ?_)
              obtain ⟨c14, h⟩ := zi_if h
              refine zv_iald hB zd303_105 rfl rfl (zi_ix_ok c14).1 (zi_ix_ok c14).2 (fun _ _ => ?_)
              refine zv_con hB zd303_106 rfl ?_
              refine zv_addw hB zd303_107 ?_
              refine zv_iast hB zd303_108 rfl rfl (zi_ix_ok c12).1 (zi_ix_ok c12).2 ?_
              refine zv_ald hB zd303_109 rfl rfl rfl ?_
              refine zv_getr hB zd303_110 rfl ?_
              refine zv_ild hB zd303_113 rfl rfl ?_
              refine zv_ild hB zd303_114 rfl rfl ?_
              obtain ⟨c15, h⟩ := zi_if h
              refine zv_iast hB zd303_116 rfl rfl (zi_ix_ok c15).1 (zi_ix_ok c15).2 ?_
              refine zv_ild hB zd303_117 rfl rfl ?_
              refine zv_con hB zd303_118 rfl ?_
              refine zv_addw hB zd303_119 ?_
              refine zv_ist hB zd303_120 rfl rfl rfl ?_
              refine zv_iincw hB zd303_121 rfl rfl ?_
              refine zv_goto hB zd303_124 rfl ?_
              refine zv_wk hB (L' := [.inr 0, .inr 1000, .inr 1, .inl (zi_w (x3 + 1)), .inl x4, .inl (zi_w (x5 + 1)), .inr 1000]) (F' := []) ⟨fun _ => rfl, fun (h : zv_is (.inr 1000)) => (Nat.lt_irrefl 1000 h).elim, fun _ => rfl, fun _ => rfl, fun _ => rfl, fun _ => rfl, fun (h : zv_is (.inr 1000)) => (Nat.lt_irrefl 1000 h).elim, trivial⟩ trivial ?_
              exact ih _ _ _ _ _ q h hK
            · rw [if_pos hc13] at h
              refine zv_goto hB zd303_91 rfl ?_
              refine zv_iincw hB zd303_121 rfl rfl ?_
              refine zv_goto hB zd303_124 rfl ?_
              refine zv_wk hB (L' := [.inr 0, .inr 1000, .inr 1, .inl x3, .inl x4, .inl (zi_w (x5 + 1)), .inr 1000]) (F' := []) ⟨fun _ => rfl, fun (h : zv_is (.inr 1000)) => (Nat.lt_irrefl 1000 h).elim, fun _ => rfl, fun _ => rfl, fun _ => rfl, fun _ => rfl, fun (h : zv_is (.inr 1000)) => (Nat.lt_irrefl 1000 h).elim, trivial⟩ trivial ?_
              exact ih _ _ _ _ _ q h hK
  have l1 : ∀ (n : Nat) (x3 : Int) (x4 : Int) (g0 : (Int → Int)) (g1 : (Int → Int)) (q : (Int → Int) × (Int → Int)), zf_M_sails_288_l1 g2 n x3 x4 g0 g1 = some q → (good 133 [.inr 1000, .inr 1000, .inr 1000, .inr 1000, .inr 1000, .inr 1000, .inr 1000] [] [] [q.1, q.2, g2]) → good 37 [.inr 0, .inr 1000, .inr 1, .inl x3, .inl x4, .inr 1000, .inr 1000] [] [] [g0, g1, g2] := by
    intro n
    induction n with
    | zero => intro x3 x4 g0 g1 q h; exact absurd (show none = some q from h) (fun h => by cases h)
    | succ n ih =>
      intro x3 x4 g0 g1 q h hK
      replace h : zf_M_sails_288_l1_b g2 (zf_M_sails_288_l1 g2 n) x3 x4 g0 g1 = some q := h
      unfold zf_M_sails_288_l1_b at h
      refine zv_ild hB zd303_37 rfl rfl ?_
      refine zv_ild hB zd303_39 rfl rfl ?_
      refine zv_cge hB zd303_40 rfl (fun hc5 => ?_) (fun hc5 => ?_)
      · rw [if_neg (Int.not_lt.mpr hc5)] at h
        have hq := Option.some.inj h
        subst hq
        refine zv_wk hB (L' := [.inr 1000, .inr 1000, .inr 1000, .inr 1000, .inr 1000, .inr 1000, .inr 1000]) (F' := []) ⟨fun (h : zv_is (.inr 1000)) => (Nat.lt_irrefl 1000 h).elim, fun (h : zv_is (.inr 1000)) => (Nat.lt_irrefl 1000 h).elim, fun (h : zv_is (.inr 1000)) => (Nat.lt_irrefl 1000 h).elim, fun (h : zv_is (.inr 1000)) => (Nat.lt_irrefl 1000 h).elim, fun (h : zv_is (.inr 1000)) => (Nat.lt_irrefl 1000 h).elim, fun (h : zv_is (.inr 1000)) => (Nat.lt_irrefl 1000 h).elim, fun (h : zv_is (.inr 1000)) => (Nat.lt_irrefl 1000 h).elim, trivial⟩ trivial ?_
        exact hK
      · rw [if_pos hc5] at h
        refine zv_con hB zd303_43 rfl ?_
        refine zv_ist hB zd303_44 rfl rfl rfl ?_
        obtain ⟨q16, hq16, h⟩ := zi_bind h
        refine l2 _ _ _ _ _ _ q16 hq16 ?_
        show good 127 [.inr 0, .inr 1000, .inr 1, .inl q16.1, .inl x4, .inr 1000, .inr 1000] [] [] [q16.2.1, q16.2.2, g2]
        refine zv_iincw hB zd303_127 rfl rfl ?_
        refine zv_goto hB zd303_130 rfl ?_
        exact ih _ _ _ _ q h hK
  unfold zf_M_sails_288 at h
  refine zv_con hB zd303_0 rfl ?_
  refine zv_ist hB zd303_1 rfl rfl rfl ?_
  obtain ⟨q3, hq3, h⟩ := zi_bind h
  refine l0 _ _ _ _ _ q3 hq3 ?_
  show good 21 [.inr 0, .inl x1, .inr 1, .inr 1000, .inr 1000, .inr 1000, .inr 1000] [] [] [q3, g1, g2]
  refine zv_ald hB zd303_21 rfl rfl rfl ?_
  refine zv_ild hB zd303_22 rfl rfl ?_
  refine zv_con hB zd303_23 rfl ?_
  obtain ⟨c4, h⟩ := zi_if h
  refine zv_iast hB zd303_24 rfl rfl (zi_ix_ok c4).1 (zi_ix_ok c4).2 ?_
  refine zv_ald hB zd303_25 rfl rfl rfl ?_
  refine zv_getr hB zd303_26 rfl ?_
  refine zv_con hB zd303_29 rfl ?_
  refine zv_ild hB zd303_30 rfl rfl ?_
  refine zv_iast hB zd303_31 rfl rfl (by decide) (by decide) ?_
  refine zv_con hB zd303_32 rfl ?_
  refine zv_ist hB zd303_33 rfl rfl rfl ?_
  refine zv_con hB zd303_34 rfl ?_
  refine zv_ist hB zd303_35 rfl rfl rfl ?_
  obtain ⟨q17, hq17, h⟩ := zi_bind h
  refine zv_wk hB (L' := [.inr 0, .inr 1000, .inr 1, .inl 1, .inl 0, .inr 1000, .inr 1000]) (F' := []) ⟨fun _ => rfl, fun (h : zv_is (.inr 1000)) => (Nat.lt_irrefl 1000 h).elim, fun _ => rfl, fun _ => rfl, fun _ => rfl, fun (h : zv_is (.inr 1000)) => (Nat.lt_irrefl 1000 h).elim, fun (h : zv_is (.inr 1000)) => (Nat.lt_irrefl 1000 h).elim, trivial⟩ trivial ?_
  refine l1 _ _ _ _ _ q17 hq17 ?_
  show good 133 [.inr 1000, .inr 1000, .inr 1000, .inr 1000, .inr 1000, .inr 1000, .inr 1000] [] [] [q17.1, q17.2, g2]
  have hw := Option.some.inj h
  subst hw
  exact hvret _ _ _ _ zd303_133 trivial ⟨rfl, rfl, rfl⟩
/-! M_meeting (III)I -/
-- names: 0 StarTalesModel('arg', 0), 1 (0, 422)(0, 12, 0), 2 (0, 288)(0, 12, 52), 3 (0, 288)(0, 12, 54), 4 (0, 288)(0, 12, 53)
-- fields: ; arrays: g0 = 1, g1 = 2, g2 = 3, g3 = 4; out: [('ret', None), ('g', 1), ('g', 2), ('g', 3)]
abbrev zy_M_meeting : zNL := (5, [(0, 12)], [], [(0, 12, 0, 1), (0, 12, 52, 2), (0, 12, 54, 3), (0, 12, 53, 4)], [(1, 0, 422, 0), (2, 0, 288, 1), (3, 0, 288, 2), (4, 0, 288, 3)])
theorem zyw_M_meeting : zv_wf zy_M_meeting = true := by decide +kernel
theorem zye_M_meeting : zv_ek2 zy_M_meeting = true := by decide +kernel
def zf_M_meeting_l0_b (g1 : (Int → Int)) (g3 : (Int → Int)) (rec : Int → Int → Option (Int)) (x4 : Int) (x5 : Int) : Option (Int) := if x5 < 288 then (cond (zi_ix x5 288) ((zf_M_max (g1 x5) (g3 x5)).bind fun r13 => (cond (zi_ix x4 288) ((zf_M_max (g1 x4) (g3 x4)).bind fun r15 => (if r13 < r15 then (rec x5 (zi_w (x5 + 1))) else (rec x4 (zi_w (x5 + 1))))) none)) none) else (some x4)
def zf_M_meeting_l0 (g1 : (Int → Int)) (g3 : (Int → Int)) : Nat → Int → Int → Option (Int)
  | 0, _, _ => none
  | n + 1, x4, x5 => zf_M_meeting_l0_b g1 g3 (zf_M_meeting_l0 g1 g3 n) x4 x5
def zf_M_meeting (x1 : Int) (x2 : Int) (x3 : Int) (g0 : (Int → Int)) (g1 : (Int → Int)) (g2 : (Int → Int)) (g3 : (Int → Int)) : Option (Int × (Int → Int) × (Int → Int) × (Int → Int)) := (zf_M_isShip x1 g0).bind fun r1 => (if r1 = 0 then (some ((-1), g1, g2, g3)) else ((zf_M_isShip x2 g0).bind fun r3 => (if r3 = 0 then (some ((-1), g1, g2, g3)) else ((zf_M_in x3 0 1).bind fun r5 => (if r5 = 0 then (some ((-1), g1, g2, g3)) else (cond (zi_ix (zi_w (120 + x1)) 422) ((zf_M_sails_288 (g0 (zi_w (120 + x1))) g1 g2 g0).bind fun r8 => (cond (zi_ix (zi_w (120 + x2)) 422) ((zf_M_sails_288 (g0 (zi_w (120 + x2))) g3 r8.2 g0).bind fun r10 => ((zf_M_meeting_l0 r8.1 r10.1 zi_fu 0 0).bind fun q17 => (cond (zi_ix q17 288) ((zf_M_max (r8.1 q17) (r10.1 q17)).bind fun r19 => (if r19 < 1000000000 then (if x3 = 0 then (some (r19, r8.1, r10.2, r10.1)) else (some (q17, r8.1, r10.2, r10.1))) else (some ((-2), r8.1, r10.2, r10.1)))) none))) none)) none))))))
theorem zd302_0 : decode zxm302.2.1 0 = .ok (.aload_n 0, 1) := by decide +kernel
theorem zd302_1 : decode zxm302.2.1 1 = .ok (.iload_n 1, 1) := by decide +kernel
theorem zd302_2 : decode zxm302.2.1 2 = .ok (.invokevirtual 162, 3) := by decide +kernel
theorem zd302_5 : decode zxm302.2.1 5 = .ok (.ifCond .eq 20, 3) := by decide +kernel
theorem zd302_8 : decode zxm302.2.1 8 = .ok (.aload_n 0, 1) := by decide +kernel
theorem zd302_9 : decode zxm302.2.1 9 = .ok (.iload_n 2, 1) := by decide +kernel
theorem zd302_10 : decode zxm302.2.1 10 = .ok (.invokevirtual 162, 3) := by decide +kernel
theorem zd302_13 : decode zxm302.2.1 13 = .ok (.ifCond .eq 12, 3) := by decide +kernel
theorem zd302_16 : decode zxm302.2.1 16 = .ok (.iload_n 3, 1) := by decide +kernel
theorem zd302_17 : decode zxm302.2.1 17 = .ok (.iconst 0, 1) := by decide +kernel
theorem zd302_18 : decode zxm302.2.1 18 = .ok (.iconst 1, 1) := by decide +kernel
theorem zd302_19 : decode zxm302.2.1 19 = .ok (.invokestatic 150, 3) := by decide +kernel
theorem zd302_22 : decode zxm302.2.1 22 = .ok (.ifCond .ne 5, 3) := by decide +kernel
theorem zd302_25 : decode zxm302.2.1 25 = .ok (.iconst (-1), 1) := by decide +kernel
theorem zd302_26 : decode zxm302.2.1 26 = .ok (.ireturn, 1) := by decide +kernel
theorem zd302_27 : decode zxm302.2.1 27 = .ok (.aload_n 0, 1) := by decide +kernel
theorem zd302_28 : decode zxm302.2.1 28 = .ok (.aload_n 0, 1) := by decide +kernel
theorem zd302_29 : decode zxm302.2.1 29 = .ok (.getfield 7, 3) := by decide +kernel
theorem zd302_32 : decode zxm302.2.1 32 = .ok (.bipush 120, 2) := by decide +kernel
theorem zd302_34 : decode zxm302.2.1 34 = .ok (.iload_n 1, 1) := by decide +kernel
theorem zd302_35 : decode zxm302.2.1 35 = .ok (.iadd, 1) := by decide +kernel
theorem zd302_36 : decode zxm302.2.1 36 = .ok (.iaload, 1) := by decide +kernel
theorem zd302_37 : decode zxm302.2.1 37 = .ok (.aload_n 0, 1) := by decide +kernel
theorem zd302_38 : decode zxm302.2.1 38 = .ok (.getfield 113, 3) := by decide +kernel
theorem zd302_41 : decode zxm302.2.1 41 = .ok (.invokevirtual 443, 3) := by decide +kernel
theorem zd302_44 : decode zxm302.2.1 44 = .ok (.aload_n 0, 1) := by decide +kernel
theorem zd302_45 : decode zxm302.2.1 45 = .ok (.aload_n 0, 1) := by decide +kernel
theorem zd302_46 : decode zxm302.2.1 46 = .ok (.getfield 7, 3) := by decide +kernel
theorem zd302_49 : decode zxm302.2.1 49 = .ok (.bipush 120, 2) := by decide +kernel
theorem zd302_51 : decode zxm302.2.1 51 = .ok (.iload_n 2, 1) := by decide +kernel
theorem zd302_52 : decode zxm302.2.1 52 = .ok (.iadd, 1) := by decide +kernel
theorem zd302_53 : decode zxm302.2.1 53 = .ok (.iaload, 1) := by decide +kernel
theorem zd302_54 : decode zxm302.2.1 54 = .ok (.aload_n 0, 1) := by decide +kernel
theorem zd302_55 : decode zxm302.2.1 55 = .ok (.getfield 116, 3) := by decide +kernel
theorem zd302_58 : decode zxm302.2.1 58 = .ok (.invokevirtual 443, 3) := by decide +kernel
theorem zd302_61 : decode zxm302.2.1 61 = .ok (.iconst 0, 1) := by decide +kernel
theorem zd302_62 : decode zxm302.2.1 62 = .ok (.istore 4, 2) := by decide +kernel
theorem zd302_64 : decode zxm302.2.1 64 = .ok (.iconst 0, 1) := by decide +kernel
theorem zd302_65 : decode zxm302.2.1 65 = .ok (.istore 5, 2) := by decide +kernel
theorem zd302_67 : decode zxm302.2.1 67 = .ok (.iload 5, 2) := by decide +kernel
theorem zd302_69 : decode zxm302.2.1 69 = .ok (.sipush 288, 3) := by decide +kernel
theorem zd302_72 : decode zxm302.2.1 72 = .ok (.if_icmp .ge 50, 3) := by decide +kernel
theorem zd302_75 : decode zxm302.2.1 75 = .ok (.aload_n 0, 1) := by decide +kernel
theorem zd302_76 : decode zxm302.2.1 76 = .ok (.getfield 113, 3) := by decide +kernel
theorem zd302_79 : decode zxm302.2.1 79 = .ok (.iload 5, 2) := by decide +kernel
theorem zd302_81 : decode zxm302.2.1 81 = .ok (.iaload, 1) := by decide +kernel
theorem zd302_82 : decode zxm302.2.1 82 = .ok (.aload_n 0, 1) := by decide +kernel
theorem zd302_83 : decode zxm302.2.1 83 = .ok (.getfield 116, 3) := by decide +kernel
theorem zd302_86 : decode zxm302.2.1 86 = .ok (.iload 5, 2) := by decide +kernel
theorem zd302_88 : decode zxm302.2.1 88 = .ok (.iaload, 1) := by decide +kernel
theorem zd302_89 : decode zxm302.2.1 89 = .ok (.invokestatic 324, 3) := by decide +kernel
theorem zd302_92 : decode zxm302.2.1 92 = .ok (.aload_n 0, 1) := by decide +kernel
theorem zd302_93 : decode zxm302.2.1 93 = .ok (.getfield 113, 3) := by decide +kernel
theorem zd302_96 : decode zxm302.2.1 96 = .ok (.iload 4, 2) := by decide +kernel
theorem zd302_98 : decode zxm302.2.1 98 = .ok (.iaload, 1) := by decide +kernel
theorem zd302_99 : decode zxm302.2.1 99 = .ok (.aload_n 0, 1) := by decide +kernel
theorem zd302_100 : decode zxm302.2.1 100 = .ok (.getfield 116, 3) := by decide +kernel
theorem zd302_103 : decode zxm302.2.1 103 = .ok (.iload 4, 2) := by decide +kernel
theorem zd302_105 : decode zxm302.2.1 105 = .ok (.iaload, 1) := by decide +kernel
theorem zd302_106 : decode zxm302.2.1 106 = .ok (.invokestatic 324, 3) := by decide +kernel
theorem zd302_109 : decode zxm302.2.1 109 = .ok (.if_icmp .ge 7, 3) := by decide +kernel
theorem zd302_112 : decode zxm302.2.1 112 = .ok (.iload 5, 2) := by decide +kernel
theorem zd302_114 : decode zxm302.2.1 114 = .ok (.istore 4, 2) := by decide +kernel
theorem zd302_116 : decode zxm302.2.1 116 = .ok (.iinc 5 1, 3) := by decide +kernel
theorem zd302_119 : decode zxm302.2.1 119 = .ok (.goto (-52), 3) := by decide +kernel
theorem zd302_122 : decode zxm302.2.1 122 = .ok (.aload_n 0, 1) := by decide +kernel
theorem zd302_123 : decode zxm302.2.1 123 = .ok (.getfield 113, 3) := by decide +kernel
theorem zd302_126 : decode zxm302.2.1 126 = .ok (.iload 4, 2) := by decide +kernel
theorem zd302_128 : decode zxm302.2.1 128 = .ok (.iaload, 1) := by decide +kernel
theorem zd302_129 : decode zxm302.2.1 129 = .ok (.aload_n 0, 1) := by decide +kernel
theorem zd302_130 : decode zxm302.2.1 130 = .ok (.getfield 116, 3) := by decide +kernel
theorem zd302_133 : decode zxm302.2.1 133 = .ok (.iload 4, 2) := by decide +kernel
theorem zd302_135 : decode zxm302.2.1 135 = .ok (.iaload, 1) := by decide +kernel
theorem zd302_136 : decode zxm302.2.1 136 = .ok (.invokestatic 324, 3) := by decide +kernel
theorem zd302_139 : decode zxm302.2.1 139 = .ok (.istore 5, 2) := by decide +kernel
theorem zd302_141 : decode zxm302.2.1 141 = .ok (.iload 5, 2) := by decide +kernel
theorem zd302_143 : decode zxm302.2.1 143 = .ok (.ldc_w 391, 3) := by decide +kernel
theorem zd302_146 : decode zxm302.2.1 146 = .ok (.if_icmp .lt 8, 3) := by decide +kernel
theorem zd302_149 : decode zxm302.2.1 149 = .ok (.bipush (-2), 2) := by decide +kernel
theorem zd302_151 : decode zxm302.2.1 151 = .ok (.goto 14, 3) := by decide +kernel
theorem zd302_154 : decode zxm302.2.1 154 = .ok (.iload_n 3, 1) := by decide +kernel
theorem zd302_155 : decode zxm302.2.1 155 = .ok (.ifCond .ne 8, 3) := by decide +kernel
theorem zd302_158 : decode zxm302.2.1 158 = .ok (.iload 5, 2) := by decide +kernel
theorem zd302_160 : decode zxm302.2.1 160 = .ok (.goto 5, 3) := by decide +kernel
theorem zd302_163 : decode zxm302.2.1 163 = .ok (.iload 4, 2) := by decide +kernel
theorem zd302_165 : decode zxm302.2.1 165 = .ok (.ireturn, 1) := by decide +kernel
theorem zt_M_meeting {x1 : Int} {x2 : Int} {x3 : Int} {g0 : (Int → Int)} {g1 : (Int → Int)} {g2 : (Int → Int)} {g3 : (Int → Int)} {o : Int × (Int → Int) × (Int → Int) × (Int → Int)} (h : zf_M_meeting x1 x2 x3 g0 g1 g2 g3 = some o) : zv_Fn z_TB z_cl z_KX zy_M_meeting zxm302 (2, 120) [.inr 0, .inl x1, .inl x2, .inl x3] [] [g0, g1, g2, g3] (some o.1) [] [g0, o.2.1, o.2.2.1, o.2.2.2] := zv_meth (K := (z_KF13, z_KC13, z_KL13, z_KT13, [], [], [], none)) (FT := z_FT) (MT := z_MT) (n := 4) zxp302 (z_ks13 _ (fun _ h => List.mem_cons_of_mem _ h) _ _ _ _ (fun j r h _ => by cases h)) (fun _ _ => zs_KX_p) zyw_M_meeting (fun va F G h => by obtain ⟨rfl, _⟩ := h; rfl) (fun va F G h => by obtain ⟨rfl, _⟩ := h; rfl) rfl fun good va F G hB hret hvret hP => by
  obtain ⟨rfl, rfl, rfl⟩ := hP
  have l0 : ∀ (n : Nat) (x3 : Int) (x4 : Int) (x5 : Int) (g1 : (Int → Int)) (g2 : (Int → Int)) (g3 : (Int → Int)) (q : Int), zf_M_meeting_l0 g1 g3 n x4 x5 = some q → (good 122 [.inr 0, .inr 1000, .inr 1000, .inl x3, .inl q, .inr 1000] [] [] [g0, g1, g2, g3]) → good 67 [.inr 0, .inr 1000, .inr 1000, .inl x3, .inl x4, .inl x5] [] [] [g0, g1, g2, g3] := by
    intro n
    induction n with
    | zero => intro x3 x4 x5 g1 g2 g3 q h; exact absurd (show none = some q from h) (fun h => by cases h)
    | succ n ih =>
      intro x3 x4 x5 g1 g2 g3 q h hK
      replace h : zf_M_meeting_l0_b g1 g3 (zf_M_meeting_l0 g1 g3 n) x4 x5 = some q := h
      unfold zf_M_meeting_l0_b at h
      refine zv_ild hB zd302_67 rfl rfl ?_
      refine zv_con hB zd302_69 rfl ?_
      refine zv_cge hB zd302_72 rfl (fun hc11 => ?_) (fun hc11 => ?_)
      · rw [if_neg (Int.not_lt.mpr hc11)] at h
        have hq := Option.some.inj h
        subst hq
        refine zv_wk hB (L' := [.inr 0, .inr 1000, .inr 1000, .inl x3, .inl x4, .inr 1000]) (F' := []) ⟨fun _ => rfl, fun (h : zv_is (.inr 1000)) => (Nat.lt_irrefl 1000 h).elim, fun (h : zv_is (.inr 1000)) => (Nat.lt_irrefl 1000 h).elim, fun _ => rfl, fun _ => rfl, fun (h : zv_is (.inr 1000)) => (Nat.lt_irrefl 1000 h).elim, trivial⟩ trivial ?_
        exact hK
      · rw [if_pos hc11] at h
        refine zv_ald hB zd302_75 rfl rfl rfl ?_
        refine zv_getr hB zd302_76 rfl ?_
        refine zv_ild hB zd302_79 rfl rfl ?_
        obtain ⟨c12, h⟩ := zi_if h
        refine zv_iald hB zd302_81 rfl rfl (zi_ix_ok c12).1 (zi_ix_ok c12).2 (fun _ _ => ?_)
        refine zv_ald hB zd302_82 rfl rfl rfl ?_
        refine zv_getr hB zd302_83 rfl ?_
        refine zv_ild hB zd302_86 rfl rfl ?_
        refine zv_iald hB zd302_88 rfl rfl (zi_ix_ok c12).1 (zi_ix_ok c12).2 (fun _ _ => ?_)
        obtain ⟨r13, hr13, h⟩ := zi_bind h
        refine zv_cs hB (zv_emq (va2 := [.inl (g1 x5), .inl (g3 x5)]) (F := []) (F' := []) (G := [g0, g1, g2, g3]) (G' := [g0, g1, g2, g3]) (ρ := []) (φ := []) (ψ := []) [] [none, none, none, none] zyw_M_max zyw_M_meeting zye_M_meeting (by decide +kernel) (zt_M_max hr13) trivial trivial rfl rfl rfl rfl rfl rfl rfl) zd302_89 zxt258 rfl (by decide) (by decide) rfl ?_
        refine zv_ald hB zd302_92 rfl rfl rfl ?_
        refine zv_getr hB zd302_93 rfl ?_
        refine zv_ild hB zd302_96 rfl rfl ?_
        obtain ⟨c14, h⟩ := zi_if h
        refine zv_iald hB zd302_98 rfl rfl (zi_ix_ok c14).1 (zi_ix_ok c14).2 (fun _ _ => ?_)
        refine zv_ald hB zd302_99 rfl rfl rfl ?_
        refine zv_getr hB zd302_100 rfl ?_
        refine zv_ild hB zd302_103 rfl rfl ?_
        refine zv_iald hB zd302_105 rfl rfl (zi_ix_ok c14).1 (zi_ix_ok c14).2 (fun _ _ => ?_)
        obtain ⟨r15, hr15, h⟩ := zi_bind h
        refine zv_cs hB (zv_emq (va2 := [.inl (g1 x4), .inl (g3 x4)]) (F := []) (F' := []) (G := [g0, g1, g2, g3]) (G' := [g0, g1, g2, g3]) (ρ := []) (φ := []) (ψ := []) [] [none, none, none, none] zyw_M_max zyw_M_meeting zye_M_meeting (by decide +kernel) (zt_M_max hr15) trivial trivial rfl rfl rfl rfl rfl rfl rfl) zd302_106 zxt258 rfl (by decide) (by decide) rfl ?_
        refine zv_cge hB zd302_109 rfl (fun hc16 => ?_) (fun hc16 => ?_)
        · rw [if_neg (Int.not_lt.mpr hc16)] at h
          refine zv_iincw hB zd302_116 rfl rfl ?_
          refine zv_goto hB zd302_119 rfl ?_
          exact ih _ _ _ _ _ _ q h hK
        · rw [if_pos hc16] at h
          refine zv_ild hB zd302_112 rfl rfl ?_
          refine zv_ist hB zd302_114 rfl rfl rfl ?_
          refine zv_iincw hB zd302_116 rfl rfl ?_
          refine zv_goto hB zd302_119 rfl ?_
          exact ih _ _ _ _ _ _ q h hK
  unfold zf_M_meeting at h
  refine zv_ald hB zd302_0 rfl rfl rfl ?_
  refine zv_ild hB zd302_1 rfl rfl ?_
  obtain ⟨r1, hr1, h⟩ := zi_bind h
  refine zv_cv hB (zv_emq (va2 := [.inr 0, .inl x1]) (F := []) (F' := []) (G := [g0, g1, g2, g3]) (G' := [g0, g1, g2, g3]) (ρ := [0, 1]) (φ := []) (ψ := [0]) [] [some 0, none, none, none] zyw_M_isShip zyw_M_meeting zye_M_meeting (by decide +kernel) (zt_M_isShip hr1) trivial ⟨rfl, trivial⟩ rfl rfl rfl rfl rfl rfl rfl) zd302_2 zxt210 rfl (by decide) (by decide) rfl ?_
  refine zv_zeq hB zd302_5 rfl (fun hc2 => ?_) (fun hc2 => ?_)
  · rw [if_pos hc2] at h
    refine zv_con hB zd302_25 rfl ?_
    have hw := Option.some.inj h
    subst hw
    exact hret _ _ _ _ _ zd302_26 (by trivial) ⟨rfl, rfl, rfl⟩
  · rw [if_neg hc2] at h
    refine zv_ald hB zd302_8 rfl rfl rfl ?_
    refine zv_ild hB zd302_9 rfl rfl ?_
    obtain ⟨r3, hr3, h⟩ := zi_bind h
    refine zv_cv hB (zv_emq (va2 := [.inr 0, .inl x2]) (F := []) (F' := []) (G := [g0, g1, g2, g3]) (G' := [g0, g1, g2, g3]) (ρ := [0, 1]) (φ := []) (ψ := [0]) [] [some 0, none, none, none] zyw_M_isShip zyw_M_meeting zye_M_meeting (by decide +kernel) (zt_M_isShip hr3) trivial ⟨rfl, trivial⟩ rfl rfl rfl rfl rfl rfl rfl) zd302_10 zxt210 rfl (by decide) (by decide) rfl ?_
    refine zv_zeq hB zd302_13 rfl (fun hc4 => ?_) (fun hc4 => ?_)
    · rw [if_pos hc4] at h
      refine zv_con hB zd302_25 rfl ?_
      have hw := Option.some.inj h
      subst hw
      exact hret _ _ _ _ _ zd302_26 (by trivial) ⟨rfl, rfl, rfl⟩
    · rw [if_neg hc4] at h
      refine zv_ild hB zd302_16 rfl rfl ?_
      refine zv_con hB zd302_17 rfl ?_
      refine zv_con hB zd302_18 rfl ?_
      obtain ⟨r5, hr5, h⟩ := zi_bind h
      refine zv_cs hB (zv_emq (va2 := [.inl x3, .inl 0, .inl 1]) (F := []) (F' := []) (G := [g0, g1, g2, g3]) (G' := [g0, g1, g2, g3]) (ρ := []) (φ := []) (ψ := []) [] [none, none, none, none] zyw_M_in zyw_M_meeting zye_M_meeting (by decide +kernel) (zt_M_in hr5) trivial trivial rfl rfl rfl rfl rfl rfl rfl) zd302_19 zxt200 rfl (by decide) (by decide) rfl ?_
      refine zv_zne hB zd302_22 rfl (fun hc6 => ?_) (fun hc6 => ?_)
      · rw [if_neg hc6] at h
        refine zv_ald hB zd302_27 rfl rfl rfl ?_
        refine zv_ald hB zd302_28 rfl rfl rfl ?_
        refine zv_getr hB zd302_29 rfl ?_
        refine zv_con hB zd302_32 rfl ?_
        refine zv_ild hB zd302_34 rfl rfl ?_
        refine zv_addw hB zd302_35 ?_
        obtain ⟨c7, h⟩ := zi_if h
        refine zv_iald hB zd302_36 rfl rfl (zi_ix_ok c7).1 (zi_ix_ok c7).2 (fun _ _ => ?_)
        refine zv_ald hB zd302_37 rfl rfl rfl ?_
        refine zv_getr hB zd302_38 rfl ?_
        obtain ⟨r8, hr8, h⟩ := zi_bind h
        refine zv_cv hB (zv_emq (va2 := [.inr 0, .inl (g0 (zi_w (120 + x1))), .inr 2]) (F := []) (F' := []) (G := [g0, g1, g2, g3]) (G' := [g0, r8.1, r8.2, g3]) (ρ := [0, 2, 3, 1]) (φ := []) (ψ := [1, 2, 0]) [] [some 2, some 0, some 1, none] zyw_M_sails_288 zyw_M_meeting zye_M_meeting (by decide +kernel) (zt_M_sails_288 hr8) trivial ⟨rfl, rfl, rfl, trivial⟩ rfl rfl rfl rfl rfl rfl rfl) zd302_41 zxt303 rfl (by decide) (by decide) rfl ?_
        refine zv_ald hB zd302_44 rfl rfl rfl ?_
        refine zv_ald hB zd302_45 rfl rfl rfl ?_
        refine zv_getr hB zd302_46 rfl ?_
        refine zv_con hB zd302_49 rfl ?_
        refine zv_ild hB zd302_51 rfl rfl ?_
        refine zv_addw hB zd302_52 ?_
        obtain ⟨c9, h⟩ := zi_if h
        refine zv_iald hB zd302_53 rfl rfl (zi_ix_ok c9).1 (zi_ix_ok c9).2 (fun _ _ => ?_)
        refine zv_ald hB zd302_54 rfl rfl rfl ?_
        refine zv_getr hB zd302_55 rfl ?_
        obtain ⟨r10, hr10, h⟩ := zi_bind h
        refine zv_cv hB (zv_emq (va2 := [.inr 0, .inl (g0 (zi_w (120 + x2))), .inr 4]) (F := []) (F' := []) (G := [g0, r8.1, r8.2, g3]) (G' := [g0, r8.1, r10.2, r10.1]) (ρ := [0, 4, 3, 1]) (φ := []) (ψ := [3, 2, 0]) [] [some 2, none, some 1, some 0] zyw_M_sails_288 zyw_M_meeting zye_M_meeting (by decide +kernel) (zt_M_sails_288 hr10) trivial ⟨rfl, rfl, rfl, trivial⟩ rfl rfl rfl rfl rfl rfl rfl) zd302_58 zxt303 rfl (by decide) (by decide) rfl ?_
        refine zv_con hB zd302_61 rfl ?_
        refine zv_ist hB zd302_62 rfl rfl rfl ?_
        refine zv_con hB zd302_64 rfl ?_
        refine zv_ist hB zd302_65 rfl rfl rfl ?_
        obtain ⟨q17, hq17, h⟩ := zi_bind h
        refine zv_wk hB (L' := [.inr 0, .inr 1000, .inr 1000, .inl x3, .inl 0, .inl 0]) (F' := []) ⟨fun _ => rfl, fun (h : zv_is (.inr 1000)) => (Nat.lt_irrefl 1000 h).elim, fun (h : zv_is (.inr 1000)) => (Nat.lt_irrefl 1000 h).elim, fun _ => rfl, fun _ => rfl, fun _ => rfl, trivial⟩ trivial ?_
        refine l0 _ _ _ _ _ _ _ q17 hq17 ?_
        show good 122 [.inr 0, .inr 1000, .inr 1000, .inl x3, .inl q17, .inr 1000] [] [] [g0, r8.1, r10.2, r10.1]
        refine zv_ald hB zd302_122 rfl rfl rfl ?_
        refine zv_getr hB zd302_123 rfl ?_
        refine zv_ild hB zd302_126 rfl rfl ?_
        obtain ⟨c18, h⟩ := zi_if h
        refine zv_iald hB zd302_128 rfl rfl (zi_ix_ok c18).1 (zi_ix_ok c18).2 (fun _ _ => ?_)
        refine zv_ald hB zd302_129 rfl rfl rfl ?_
        refine zv_getr hB zd302_130 rfl ?_
        refine zv_ild hB zd302_133 rfl rfl ?_
        refine zv_iald hB zd302_135 rfl rfl (zi_ix_ok c18).1 (zi_ix_ok c18).2 (fun _ _ => ?_)
        obtain ⟨r19, hr19, h⟩ := zi_bind h
        refine zv_cs hB (zv_emq (va2 := [.inl (r8.1 q17), .inl (r10.1 q17)]) (F := []) (F' := []) (G := [g0, r8.1, r10.2, r10.1]) (G' := [g0, r8.1, r10.2, r10.1]) (ρ := []) (φ := []) (ψ := []) [] [none, none, none, none] zyw_M_max zyw_M_meeting zye_M_meeting (by decide +kernel) (zt_M_max hr19) trivial trivial rfl rfl rfl rfl rfl rfl rfl) zd302_136 zxt258 rfl (by decide) (by decide) rfl ?_
        refine zv_ist hB zd302_139 rfl rfl rfl ?_
        refine zv_ild hB zd302_141 rfl rfl ?_
        refine zv_con (n := 1000000000) hB zd302_143 (by decide +kernel) ?_
        refine zv_clt hB zd302_146 rfl (fun hc20 => ?_) (fun hc20 => ?_)
        · rw [if_pos hc20] at h
          refine zv_ild hB zd302_154 rfl rfl ?_
          refine zv_zne hB zd302_155 rfl (fun hc21 => ?_) (fun hc21 => ?_)
          · rw [if_neg hc21] at h
            refine zv_ild hB zd302_163 rfl rfl ?_
            have hw := Option.some.inj h
            subst hw
            exact hret _ _ _ _ _ zd302_165 (by trivial) ⟨rfl, rfl, rfl⟩
          · rw [if_pos hc21] at h
            refine zv_ild hB zd302_158 rfl rfl ?_
            refine zv_goto hB zd302_160 rfl ?_
            have hw := Option.some.inj h
            subst hw
            exact hret _ _ _ _ _ zd302_165 (by trivial) ⟨rfl, rfl, rfl⟩
        · rw [if_neg (Int.not_lt.mpr hc20)] at h
          refine zv_con hB zd302_149 rfl ?_
          refine zv_goto hB zd302_151 rfl ?_
          have hw := Option.some.inj h
          subst hw
          exact hret _ _ _ _ _ zd302_165 (by trivial) ⟨rfl, rfl, rfl⟩
      · rw [if_pos hc6] at h
        refine zv_con hB zd302_25 rfl ?_
        have hw := Option.some.inj h
        subst hw
        exact hret _ _ _ _ _ zd302_26 (by trivial) ⟨rfl, rfl, rfl⟩
/-! M_comesBy (IIII)I -/
-- names: 0 StarTalesModel('arg', 0), 1 (0, 422)(0, 12, 0), 2 (0, 14)(0, 12, 21), 3 (0, 13)(0, 12, 26), 4 (0, 14)(0, 12, 23), 5 (0, 14)(0, 12, 24), 6 (0, 220)(0, 12, 20), 7 (0, 220)(0, 12, 25), 8 (0, 14)(0, 12, 22)
-- fields: f0 = 0.clauses_; arrays: g0 = 1, g1 = 2, g2 = 3, g3 = 4, g4 = 5, g5 = 6, g6 = 7, g7 = 8; out: [('ret', None), ('g', 0), ('g', 2), ('g', 6)]
abbrev zy_M_comesBy : zNL := (9, [(0, 12)], [(0, 12, 13, 0)], [(0, 12, 0, 1), (0, 12, 21, 2), (0, 12, 26, 3), (0, 12, 23, 4), (0, 12, 24, 5), (0, 12, 20, 6), (0, 12, 25, 7), (0, 12, 22, 8)], [(1, 0, 422, 0), (2, 0, 14, 1), (3, 0, 13, 2), (4, 0, 14, 3), (5, 0, 14, 4), (6, 0, 220, 5), (7, 0, 220, 6), (8, 0, 14, 7)])
theorem zyw_M_comesBy : zv_wf zy_M_comesBy = true := by decide +kernel
theorem zye_M_comesBy : zv_ek2 zy_M_comesBy = true := by decide +kernel
def zf_M_comesBy_l0_b (x1 : Int) (x2 : Int) (x3 : Int) (x4 : Int) (f0 : Int) (g1 : (Int → Int)) (g3 : (Int → Int)) (g4 : (Int → Int)) (g5 : (Int → Int)) (g7 : (Int → Int)) (rec : Int → (Int → Int) → (Int → Int) → (Int → Int) → Option ((((Int → Int) × (Int → Int) × (Int → Int)) ⊕ (Int × (Int → Int) × (Int → Int) × (Int → Int))))) (x5 : Int) (g0 : (Int → Int)) (g2 : (Int → Int)) (g6 : (Int → Int)) : Option ((((Int → Int) × (Int → Int) × (Int → Int)) ⊕ (Int × (Int → Int) × (Int → Int) × (Int → Int)))) := if x4 < x5 then (some (.inl (g0, g2, g6))) else (cond (zi_ix (zi_w (120 + x1)) 422) (if (g0 (zi_w (120 + x1))) = x3 then (some (.inr (x5, g0, g2, g6))) else (if x5 < x4 then ((zf_M_steers x1 x2 0 f0 g0 g1 g2 g3 g4 g5 g6 g7).bind fun r5 => (rec (zi_w (x5 + 1)) r5.1 r5.2.1 r5.2.2)) else (rec (zi_w (x5 + 1)) g0 g2 g6))) none)
def zf_M_comesBy_l0 (x1 : Int) (x2 : Int) (x3 : Int) (x4 : Int) (f0 : Int) (g1 : (Int → Int)) (g3 : (Int → Int)) (g4 : (Int → Int)) (g5 : (Int → Int)) (g7 : (Int → Int)) : Nat → Int → (Int → Int) → (Int → Int) → (Int → Int) → Option ((((Int → Int) × (Int → Int) × (Int → Int)) ⊕ (Int × (Int → Int) × (Int → Int) × (Int → Int))))
  | 0, _, _, _, _ => none
  | n + 1, x5, g0, g2, g6 => zf_M_comesBy_l0_b x1 x2 x3 x4 f0 g1 g3 g4 g5 g7 (zf_M_comesBy_l0 x1 x2 x3 x4 f0 g1 g3 g4 g5 g7 n) x5 g0 g2 g6
def zf_M_comesBy (x1 : Int) (x2 : Int) (x3 : Int) (x4 : Int) (f0 : Int) (g0 : (Int → Int)) (g1 : (Int → Int)) (g2 : (Int → Int)) (g3 : (Int → Int)) (g4 : (Int → Int)) (g5 : (Int → Int)) (g6 : (Int → Int)) (g7 : (Int → Int)) : Option (Int × (Int → Int) × (Int → Int) × (Int → Int)) := (zf_M_comesBy_l0 x1 x2 x3 x4 f0 g1 g3 g4 g5 g7 zi_fu 0 g0 g2 g6).bind fun q6 => Sum.elim (fun e7 => (some ((-1), e7.1, e7.2.1, e7.2.2))) (fun w8 => some w8) q6
theorem zd306_0 : decode zxm306.2.1 0 = .ok (.iconst 0, 1) := by decide +kernel
theorem zd306_1 : decode zxm306.2.1 1 = .ok (.istore 5, 2) := by decide +kernel
theorem zd306_3 : decode zxm306.2.1 3 = .ok (.iload 5, 2) := by decide +kernel
theorem zd306_5 : decode zxm306.2.1 5 = .ok (.iload 4, 2) := by decide +kernel
theorem zd306_7 : decode zxm306.2.1 7 = .ok (.if_icmp .gt 39, 3) := by decide +kernel
theorem zd306_10 : decode zxm306.2.1 10 = .ok (.aload_n 0, 1) := by decide +kernel
theorem zd306_11 : decode zxm306.2.1 11 = .ok (.getfield 7, 3) := by decide +kernel
theorem zd306_14 : decode zxm306.2.1 14 = .ok (.bipush 120, 2) := by decide +kernel
theorem zd306_16 : decode zxm306.2.1 16 = .ok (.iload_n 1, 1) := by decide +kernel
theorem zd306_17 : decode zxm306.2.1 17 = .ok (.iadd, 1) := by decide +kernel
theorem zd306_18 : decode zxm306.2.1 18 = .ok (.iaload, 1) := by decide +kernel
theorem zd306_19 : decode zxm306.2.1 19 = .ok (.iload_n 3, 1) := by decide +kernel
theorem zd306_20 : decode zxm306.2.1 20 = .ok (.if_icmp .ne 6, 3) := by decide +kernel
theorem zd306_23 : decode zxm306.2.1 23 = .ok (.iload 5, 2) := by decide +kernel
theorem zd306_25 : decode zxm306.2.1 25 = .ok (.ireturn, 1) := by decide +kernel
theorem zd306_26 : decode zxm306.2.1 26 = .ok (.iload 5, 2) := by decide +kernel
theorem zd306_28 : decode zxm306.2.1 28 = .ok (.iload 4, 2) := by decide +kernel
theorem zd306_30 : decode zxm306.2.1 30 = .ok (.if_icmp .ge 10, 3) := by decide +kernel
theorem zd306_33 : decode zxm306.2.1 33 = .ok (.aload_n 0, 1) := by decide +kernel
theorem zd306_34 : decode zxm306.2.1 34 = .ok (.iload_n 1, 1) := by decide +kernel
theorem zd306_35 : decode zxm306.2.1 35 = .ok (.iload_n 2, 1) := by decide +kernel
theorem zd306_36 : decode zxm306.2.1 36 = .ok (.iconst 0, 1) := by decide +kernel
theorem zd306_37 : decode zxm306.2.1 37 = .ok (.invokevirtual 430, 3) := by decide +kernel
theorem zd306_40 : decode zxm306.2.1 40 = .ok (.iinc 5 1, 3) := by decide +kernel
theorem zd306_43 : decode zxm306.2.1 43 = .ok (.goto (-40), 3) := by decide +kernel
theorem zd306_46 : decode zxm306.2.1 46 = .ok (.iconst (-1), 1) := by decide +kernel
theorem zd306_47 : decode zxm306.2.1 47 = .ok (.ireturn, 1) := by decide +kernel
theorem zt_M_comesBy {x1 : Int} {x2 : Int} {x3 : Int} {x4 : Int} {f0 : Int} {g0 : (Int → Int)} {g1 : (Int → Int)} {g2 : (Int → Int)} {g3 : (Int → Int)} {g4 : (Int → Int)} {g5 : (Int → Int)} {g6 : (Int → Int)} {g7 : (Int → Int)} {o : Int × (Int → Int) × (Int → Int) × (Int → Int)} (h : zf_M_comesBy x1 x2 x3 x4 f0 g0 g1 g2 g3 g4 g5 g6 g7 = some o) : zv_Fn z_TB z_cl z_KX zy_M_comesBy zxm306 (6, 360) [.inr 0, .inl x1, .inl x2, .inl x3, .inl x4] [.inl f0] [g0, g1, g2, g3, g4, g5, g6, g7] (some o.1) [.inl f0] [o.2.1, g1, o.2.2.1, g3, g4, g5, o.2.2.2, g7] := zv_meth (K := (z_KF13, z_KC13, z_KL13, z_KT13, [], [], [], none)) (FT := z_FT) (MT := z_MT) (n := 5) zxp306 (z_ks13 _ (fun _ h => List.mem_cons_of_mem _ h) _ _ _ _ (fun j r h _ => by cases h)) (fun _ _ => zs_KX_p) zyw_M_comesBy (fun va F G h => by obtain ⟨rfl, _⟩ := h; rfl) (fun va F G h => by obtain ⟨rfl, _⟩ := h; rfl) rfl fun good va F G hB hret hvret hP => by
  obtain ⟨rfl, rfl, rfl⟩ := hP
  have l0 : ∀ (n : Nat) (x1 : Int) (x2 : Int) (x3 : Int) (x4 : Int) (x5 : Int) (g0 : (Int → Int)) (g2 : (Int → Int)) (g6 : (Int → Int)) (q : (((Int → Int) × (Int → Int) × (Int → Int)) ⊕ (Int × (Int → Int) × (Int → Int) × (Int → Int)))), zf_M_comesBy_l0 x1 x2 x3 x4 f0 g1 g3 g4 g5 g7 n x5 g0 g2 g6 = some q → (Sum.elim (fun e : (Int → Int) × (Int → Int) × (Int → Int) => good 46 [.inr 1000, .inr 1000, .inr 1000, .inr 1000, .inr 1000, .inr 1000] [] [.inl f0] [e.1, g1, e.2.1, g3, g4, g5, e.2.2, g7]) (fun w : Int × (Int → Int) × (Int → Int) × (Int → Int) => w = o) q) → good 3 [.inr 0, .inl x1, .inl x2, .inl x3, .inl x4, .inl x5] [] [.inl f0] [g0, g1, g2, g3, g4, g5, g6, g7] := by
    intro n
    induction n with
    | zero => intro x1 x2 x3 x4 x5 g0 g2 g6 q h; exact absurd (show none = some q from h) (fun h => by cases h)
    | succ n ih =>
      intro x1 x2 x3 x4 x5 g0 g2 g6 q h hK
      replace h : zf_M_comesBy_l0_b x1 x2 x3 x4 f0 g1 g3 g4 g5 g7 (zf_M_comesBy_l0 x1 x2 x3 x4 f0 g1 g3 g4 g5 g7 n) x5 g0 g2 g6 = some q := h
      unfold zf_M_comesBy_l0_b at h
      refine zv_ild hB zd306_3 rfl rfl ?_
      refine zv_ild hB zd306_5 rfl rfl ?_
      refine zv_cgt hB zd306_7 rfl (fun hc1 => ?_) (fun hc1 => ?_)
      · rw [if_pos hc1] at h
        have hq := Option.some.inj h
        subst hq
        refine zv_wk hB (L' := [.inr 1000, .inr 1000, .inr 1000, .inr 1000, .inr 1000, .inr 1000]) (F' := [.inl f0]) ⟨fun (h : zv_is (.inr 1000)) => (Nat.lt_irrefl 1000 h).elim, fun (h : zv_is (.inr 1000)) => (Nat.lt_irrefl 1000 h).elim, fun (h : zv_is (.inr 1000)) => (Nat.lt_irrefl 1000 h).elim, fun (h : zv_is (.inr 1000)) => (Nat.lt_irrefl 1000 h).elim, fun (h : zv_is (.inr 1000)) => (Nat.lt_irrefl 1000 h).elim, fun (h : zv_is (.inr 1000)) => (Nat.lt_irrefl 1000 h).elim, trivial⟩ ⟨fun _ => rfl, trivial⟩ ?_
        exact hK
      · rw [if_neg (Int.not_lt.mpr hc1)] at h
        refine zv_ald hB zd306_10 rfl rfl rfl ?_
        refine zv_getr hB zd306_11 rfl ?_
        refine zv_con hB zd306_14 rfl ?_
        refine zv_ild hB zd306_16 rfl rfl ?_
        refine zv_addw hB zd306_17 ?_
        obtain ⟨c2, h⟩ := zi_if h
        refine zv_iald hB zd306_18 rfl rfl (zi_ix_ok c2).1 (zi_ix_ok c2).2 (fun _ _ => ?_)
        refine zv_ild hB zd306_19 rfl rfl ?_
        refine zv_cne hB zd306_20 rfl (fun hc3 => ?_) (fun hc3 => ?_)
        · rw [if_neg hc3] at h
          refine zv_ild hB zd306_26 rfl rfl ?_
          refine zv_ild hB zd306_28 rfl rfl ?_
          refine zv_cge hB zd306_30 rfl (fun hc4 => ?_) (fun hc4 => ?_)
          · rw [if_neg (Int.not_lt.mpr hc4)] at h
            refine zv_iincw hB zd306_40 rfl rfl ?_
            refine zv_goto hB zd306_43 rfl ?_
            exact ih _ _ _ _ _ _ _ _ q h hK
          · rw [if_pos hc4] at h
            refine zv_ald hB zd306_33 rfl rfl rfl ?_
            refine zv_ild hB zd306_34 rfl rfl ?_
            refine zv_ild hB zd306_35 rfl rfl ?_
            refine zv_con hB zd306_36 rfl ?_
            obtain ⟨r5, hr5, h⟩ := zi_bind h
            refine zv_cv hB (zv_emq (va2 := [.inr 0, .inl x1, .inl x2, .inl 0]) (F := [.inl f0]) (F' := [.inl f0]) (G := [g0, g1, g2, g3, g4, g5, g6, g7]) (G' := [r5.1, g1, r5.2.1, g3, g4, g5, r5.2.2, g7]) (ρ := [0, 1, 2, 3, 4, 5, 6, 7, 8]) (φ := [0]) (ψ := [0, 1, 2, 3, 4, 5, 6, 7]) [some 0] [some 0, some 1, some 2, some 3, some 4, some 5, some 6, some 7] zyw_M_steers zyw_M_comesBy zye_M_comesBy (by decide +kernel) (zt_M_steers hr5) ⟨⟨_, rfl, fun _ => rfl⟩, trivial⟩ ⟨rfl, rfl, rfl, rfl, rfl, rfl, rfl, rfl, trivial⟩ rfl rfl rfl rfl rfl rfl rfl) zd306_37 zxt290 rfl (by decide) (by decide) rfl ?_
            refine zv_iincw hB zd306_40 rfl rfl ?_
            refine zv_goto hB zd306_43 rfl ?_
            exact ih _ _ _ _ _ _ _ _ q h hK
        · rw [if_pos hc3] at h
          refine zv_ild hB zd306_23 rfl rfl ?_
          have hw : (x5, g0, g2, g6) = o := zi_rk (Option.some.inj h) hK
          subst hw
          exact hret _ _ _ _ _ zd306_25 (by trivial) ⟨rfl, rfl, rfl⟩
  unfold zf_M_comesBy at h
  refine zv_con hB zd306_0 rfl ?_
  refine zv_ist hB zd306_1 rfl rfl rfl ?_
  obtain ⟨q6, hq6, h⟩ := zi_bind h
  refine l0 _ _ _ _ _ _ _ _ _ q6 hq6 ?_
  rcases q6 with e7 | w8
  · replace h := zi_sl h
    show good 46 [.inr 1000, .inr 1000, .inr 1000, .inr 1000, .inr 1000, .inr 1000] [] [.inl f0] [e7.1, g1, e7.2.1, g3, g4, g5, e7.2.2, g7]
    refine zv_con hB zd306_46 rfl ?_
    have hw := Option.some.inj h
    subst hw
    exact hret _ _ _ _ _ zd306_47 (by trivial) ⟨rfl, rfl, rfl⟩
  · exact Option.some.inj h
end
