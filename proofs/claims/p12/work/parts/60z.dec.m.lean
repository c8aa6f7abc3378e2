/-! 60z.dec, 61a.dec -/
section
/-! Methods as functions, and that they do what these do. -/
/-! Chooser_pairsApart (II)I -/
-- names: 0 Chooser('arg', 0), 1 (0, 8)(0, 11, 0)
-- fields: ; arrays: g0 = 1; out: [('ret', None)]
abbrev zy_Chooser_pairsApart : zNL := (2, [(0, 11)], [], [(0, 11, 0, 1)], [(1, 0, 8, 0)])
theorem zyw_Chooser_pairsApart : zv_wf zy_Chooser_pairsApart = true := by decide +kernel
theorem zye_Chooser_pairsApart : zv_ek2 zy_Chooser_pairsApart = true := by decide +kernel
def zf_Chooser_pairsApart_l1_b (x1 : Int) (x5 : Int) (g0 : (Int → Int)) (rec : Int → Int → Int → Option (Int × Int)) (x3 : Int) (x4 : Int) (x6 : Int) : Option (Int × Int) := if x6 < x5 then (cond (zi_ix x5 8) (cond (zi_ix x6 8) (if (zi_and (zi_shr (zi_xor (g0 x5) (g0 x6)) x1) 1) = 0 then (rec x3 (zi_w (x4 + 1)) (zi_w (x6 + 1))) else (rec (zi_or x3 (zi_shl 1 x4)) (zi_w (x4 + 1)) (zi_w (x6 + 1)))) none) none) else (some (x3, x4))
def zf_Chooser_pairsApart_l1 (x1 : Int) (x5 : Int) (g0 : (Int → Int)) : Nat → Int → Int → Int → Option (Int × Int)
  | 0, _, _, _ => none
  | n + 1, x3, x4, x6 => zf_Chooser_pairsApart_l1_b x1 x5 g0 (zf_Chooser_pairsApart_l1 x1 x5 g0 n) x3 x4 x6
def zf_Chooser_pairsApart_l0_b (x1 : Int) (x2 : Int) (g0 : (Int → Int)) (rec : Int → Int → Int → Option (Int)) (x3 : Int) (x4 : Int) (x5 : Int) : Option (Int) := if x5 < x2 then ((zf_Chooser_pairsApart_l1 x1 x5 g0 zi_fu x3 x4 0).bind fun q6 => (rec q6.1 q6.2 (zi_w (x5 + 1)))) else (some x3)
def zf_Chooser_pairsApart_l0 (x1 : Int) (x2 : Int) (g0 : (Int → Int)) : Nat → Int → Int → Int → Option (Int)
  | 0, _, _, _ => none
  | n + 1, x3, x4, x5 => zf_Chooser_pairsApart_l0_b x1 x2 g0 (zf_Chooser_pairsApart_l0 x1 x2 g0 n) x3 x4 x5
def zf_Chooser_pairsApart (x1 : Int) (x2 : Int) (g0 : (Int → Int)) : Option (Int) := (zf_Chooser_pairsApart_l0 x1 x2 g0 zi_fu 0 0 0).bind fun q7 => (some q7)
theorem zd142_0 : decode zxm142.2.1 0 = .ok (.iconst 0, 1) := by decide +kernel
theorem zd142_1 : decode zxm142.2.1 1 = .ok (.istore_n 3, 1) := by decide +kernel
theorem zd142_2 : decode zxm142.2.1 2 = .ok (.iconst 0, 1) := by decide +kernel
theorem zd142_3 : decode zxm142.2.1 3 = .ok (.istore 4, 2) := by decide +kernel
theorem zd142_5 : decode zxm142.2.1 5 = .ok (.iconst 0, 1) := by decide +kernel
theorem zd142_6 : decode zxm142.2.1 6 = .ok (.istore 5, 2) := by decide +kernel
theorem zd142_8 : decode zxm142.2.1 8 = .ok (.iload 5, 2) := by decide +kernel
theorem zd142_10 : decode zxm142.2.1 10 = .ok (.iload_n 2, 1) := by decide +kernel
theorem zd142_11 : decode zxm142.2.1 11 = .ok (.if_icmp .ge 57, 3) := by decide +kernel
theorem zd142_14 : decode zxm142.2.1 14 = .ok (.iconst 0, 1) := by decide +kernel
theorem zd142_15 : decode zxm142.2.1 15 = .ok (.istore 6, 2) := by decide +kernel
theorem zd142_17 : decode zxm142.2.1 17 = .ok (.iload 6, 2) := by decide +kernel
theorem zd142_19 : decode zxm142.2.1 19 = .ok (.iload 5, 2) := by decide +kernel
theorem zd142_21 : decode zxm142.2.1 21 = .ok (.if_icmp .ge 41, 3) := by decide +kernel
theorem zd142_24 : decode zxm142.2.1 24 = .ok (.aload_n 0, 1) := by decide +kernel
theorem zd142_25 : decode zxm142.2.1 25 = .ok (.getfield 11, 3) := by decide +kernel
theorem zd142_28 : decode zxm142.2.1 28 = .ok (.iload 5, 2) := by decide +kernel
theorem zd142_30 : decode zxm142.2.1 30 = .ok (.iaload, 1) := by decide +kernel
theorem zd142_31 : decode zxm142.2.1 31 = .ok (.aload_n 0, 1) := by decide +kernel
theorem zd142_32 : decode zxm142.2.1 32 = .ok (.getfield 11, 3) := by decide +kernel
theorem zd142_35 : decode zxm142.2.1 35 = .ok (.iload 6, 2) := by decide +kernel
theorem zd142_37 : decode zxm142.2.1 37 = .ok (.iaload, 1) := by decide +kernel
theorem zd142_38 : decode zxm142.2.1 38 = .ok (.ixor, 1) := by decide +kernel
theorem zd142_39 : decode zxm142.2.1 39 = .ok (.iload_n 1, 1) := by decide +kernel
theorem zd142_40 : decode zxm142.2.1 40 = .ok (.ishr, 1) := by decide +kernel
theorem zd142_41 : decode zxm142.2.1 41 = .ok (.iconst 1, 1) := by decide +kernel
theorem zd142_42 : decode zxm142.2.1 42 = .ok (.iand, 1) := by decide +kernel
theorem zd142_43 : decode zxm142.2.1 43 = .ok (.ifCond .eq 10, 3) := by decide +kernel
theorem zd142_46 : decode zxm142.2.1 46 = .ok (.iload_n 3, 1) := by decide +kernel
theorem zd142_47 : decode zxm142.2.1 47 = .ok (.iconst 1, 1) := by decide +kernel
theorem zd142_48 : decode zxm142.2.1 48 = .ok (.iload 4, 2) := by decide +kernel
theorem zd142_50 : decode zxm142.2.1 50 = .ok (.ishl, 1) := by decide +kernel
theorem zd142_51 : decode zxm142.2.1 51 = .ok (.ior, 1) := by decide +kernel
theorem zd142_52 : decode zxm142.2.1 52 = .ok (.istore_n 3, 1) := by decide +kernel
theorem zd142_53 : decode zxm142.2.1 53 = .ok (.iinc 4 1, 3) := by decide +kernel
theorem zd142_56 : decode zxm142.2.1 56 = .ok (.iinc 6 1, 3) := by decide +kernel
theorem zd142_59 : decode zxm142.2.1 59 = .ok (.goto (-42), 3) := by decide +kernel
theorem zd142_62 : decode zxm142.2.1 62 = .ok (.iinc 5 1, 3) := by decide +kernel
theorem zd142_65 : decode zxm142.2.1 65 = .ok (.goto (-57), 3) := by decide +kernel
theorem zd142_68 : decode zxm142.2.1 68 = .ok (.iload_n 3, 1) := by decide +kernel
theorem zd142_69 : decode zxm142.2.1 69 = .ok (.ireturn, 1) := by decide +kernel
theorem zt_Chooser_pairsApart {x1 : Int} {x2 : Int} {g0 : (Int → Int)} {o : Int} (h : zf_Chooser_pairsApart x1 x2 g0 = some o) : zv_Fn z_TB z_cl z_KX zy_Chooser_pairsApart zxm142 (0, 0) [.inr 0, .inl x1, .inl x2] [] [g0] (some o) [] [g0] := zv_meth (K := (z_KF1, z_KC1, z_KL1, z_KT1, [], [], [], none)) (FT := z_FT) (MT := z_MT) (n := 3) zxp142 (z_ks1 _ (fun _ h => List.mem_cons_of_mem _ h) _ _ _ _ (fun j r h _ => by cases h)) (fun _ _ => zs_KX_p) zyw_Chooser_pairsApart (fun va F G h => by obtain ⟨rfl, _⟩ := h; rfl) (fun va F G h => by obtain ⟨rfl, _⟩ := h; rfl) rfl fun good va F G hB hret hvret hP => by
  obtain ⟨rfl, rfl, rfl⟩ := hP
  have l1 : ∀ (n : Nat) (x1 : Int) (x2 : Int) (x3 : Int) (x4 : Int) (x5 : Int) (x6 : Int) (q : Int × Int), zf_Chooser_pairsApart_l1 x1 x5 g0 n x3 x4 x6 = some q → (good 62 [.inr 0, .inl x1, .inl x2, .inl q.1, .inl q.2, .inl x5, .inr 1000] [] [] [g0]) → good 17 [.inr 0, .inl x1, .inl x2, .inl x3, .inl x4, .inl x5, .inl x6] [] [] [g0] := by
    intro n
    induction n with
    | zero => intro x1 x2 x3 x4 x5 x6 q h; exact absurd (show none = some q from h) (fun h => by cases h)
    | succ n ih =>
      intro x1 x2 x3 x4 x5 x6 q h hK
      replace h : zf_Chooser_pairsApart_l1_b x1 x5 g0 (zf_Chooser_pairsApart_l1 x1 x5 g0 n) x3 x4 x6 = some q := h
      unfold zf_Chooser_pairsApart_l1_b at h
      refine zv_ild hB zd142_17 rfl rfl ?_
      refine zv_ild hB zd142_19 rfl rfl ?_
      refine zv_cge hB zd142_21 rfl (fun hc2 => ?_) (fun hc2 => ?_)
      · rw [if_neg (Int.not_lt.mpr hc2)] at h
        have hq := Option.some.inj h
        subst hq
        refine zv_wk hB (L' := [.inr 0, .inl x1, .inl x2, .inl x3, .inl x4, .inl x5, .inr 1000]) (F' := []) ⟨fun _ => rfl, fun _ => rfl, fun _ => rfl, fun _ => rfl, fun _ => rfl, fun _ => rfl, fun (h : zv_is (.inr 1000)) => (Nat.lt_irrefl 1000 h).elim, trivial⟩ trivial ?_
        exact hK
      · rw [if_pos hc2] at h
        refine zv_ald hB zd142_24 rfl rfl rfl ?_
        refine zv_getr hB zd142_25 rfl ?_
        refine zv_ild hB zd142_28 rfl rfl ?_
        obtain ⟨c3, h⟩ := zi_if h
        refine zv_iald hB zd142_30 rfl rfl (zi_ix_ok c3).1 (zi_ix_ok c3).2 (fun _ _ => ?_)
        refine zv_ald hB zd142_31 rfl rfl rfl ?_
        refine zv_getr hB zd142_32 rfl ?_
        refine zv_ild hB zd142_35 rfl rfl ?_
        obtain ⟨c4, h⟩ := zi_if h
        refine zv_iald hB zd142_37 rfl rfl (zi_ix_ok c4).1 (zi_ix_ok c4).2 (fun _ _ => ?_)
        refine zv_xorw hB zd142_38 ?_
        refine zv_ild hB zd142_39 rfl rfl ?_
        refine zv_shrw hB zd142_40 ?_
        refine zv_con hB zd142_41 rfl ?_
        refine zv_andw hB zd142_42 ?_
        refine zv_zeq hB zd142_43 rfl (fun hc5 => ?_) (fun hc5 => ?_)
        · rw [if_pos hc5] at h
          refine zv_iincw hB zd142_53 rfl rfl ?_
          refine zv_iincw hB zd142_56 rfl rfl ?_
          refine zv_goto hB zd142_59 rfl ?_
          exact ih _ _ _ _ _ _ q h hK
        · rw [if_neg hc5] at h
          refine zv_ild hB zd142_46 rfl rfl ?_
          refine zv_con hB zd142_47 rfl ?_
          refine zv_ild hB zd142_48 rfl rfl ?_
          refine zv_shlw hB zd142_50 ?_
          refine zv_orw hB zd142_51 ?_
          refine zv_ist hB zd142_52 rfl rfl rfl ?_
          refine zv_iincw hB zd142_53 rfl rfl ?_
          refine zv_iincw hB zd142_56 rfl rfl ?_
          refine zv_goto hB zd142_59 rfl ?_
          exact ih _ _ _ _ _ _ q h hK
  have l0 : ∀ (n : Nat) (x1 : Int) (x2 : Int) (x3 : Int) (x4 : Int) (x5 : Int) (q : Int), zf_Chooser_pairsApart_l0 x1 x2 g0 n x3 x4 x5 = some q → (good 68 [.inr 1000, .inr 1000, .inr 1000, .inl q, .inr 1000, .inr 1000, .inr 1000] [] [] [g0]) → good 8 [.inr 0, .inl x1, .inl x2, .inl x3, .inl x4, .inl x5, .inr 1000] [] [] [g0] := by
    intro n
    induction n with
    | zero => intro x1 x2 x3 x4 x5 q h; exact absurd (show none = some q from h) (fun h => by cases h)
    | succ n ih =>
      intro x1 x2 x3 x4 x5 q h hK
      replace h : zf_Chooser_pairsApart_l0_b x1 x2 g0 (zf_Chooser_pairsApart_l0 x1 x2 g0 n) x3 x4 x5 = some q := h
      unfold zf_Chooser_pairsApart_l0_b at h
      refine zv_ild hB zd142_8 rfl rfl ?_
      refine zv_ild hB zd142_10 rfl rfl ?_
      refine zv_cge hB zd142_11 rfl (fun hc1 => ?_) (fun hc1 => ?_)
      · rw [if_neg (Int.not_lt.mpr hc1)] at h
        have hq := Option.some.inj h
        subst hq
        refine zv_wk hB (L' := [.inr 1000, .inr 1000, .inr 1000, .inl x3, .inr 1000, .inr 1000, .inr 1000]) (F' := []) ⟨fun (h : zv_is (.inr 1000)) => (Nat.lt_irrefl 1000 h).elim, fun (h : zv_is (.inr 1000)) => (Nat.lt_irrefl 1000 h).elim, fun (h : zv_is (.inr 1000)) => (Nat.lt_irrefl 1000 h).elim, fun _ => rfl, fun (h : zv_is (.inr 1000)) => (Nat.lt_irrefl 1000 h).elim, fun (h : zv_is (.inr 1000)) => (Nat.lt_irrefl 1000 h).elim, fun (h : zv_is (.inr 1000)) => (Nat.lt_irrefl 1000 h).elim, trivial⟩ trivial ?_
        exact hK
      · rw [if_pos hc1] at h
        refine zv_con hB zd142_14 rfl ?_
        refine zv_ist hB zd142_15 rfl rfl rfl ?_
        obtain ⟨q6, hq6, h⟩ := zi_bind h
        refine l1 _ _ _ _ _ _ _ q6 hq6 ?_
        show good 62 [.inr 0, .inl x1, .inl x2, .inl q6.1, .inl q6.2, .inl x5, .inr 1000] [] [] [g0]
        refine zv_iincw hB zd142_62 rfl rfl ?_
        refine zv_goto hB zd142_65 rfl ?_
        exact ih _ _ _ _ _ q h hK
  unfold zf_Chooser_pairsApart at h
  refine zv_con hB zd142_0 rfl ?_
  refine zv_ist hB zd142_1 rfl rfl rfl ?_
  refine zv_con hB zd142_2 rfl ?_
  refine zv_ist hB zd142_3 rfl rfl rfl ?_
  refine zv_con hB zd142_5 rfl ?_
  refine zv_ist hB zd142_6 rfl rfl rfl ?_
  obtain ⟨q7, hq7, h⟩ := zi_bind h
  refine l0 _ _ _ _ _ _ q7 hq7 ?_
  show good 68 [.inr 1000, .inr 1000, .inr 1000, .inl q7, .inr 1000, .inr 1000, .inr 1000] [] [] [g0]
  refine zv_ild hB zd142_68 rfl rfl ?_
  have hw := Option.some.inj h
  subst hw
  exact hret _ _ _ _ _ zd142_69 (by trivial) ⟨rfl, rfl, rfl⟩
/-! Chooser_leastCover (III)I -/
-- names: 0 Chooser('arg', 0), 1 (0, 24)(0, 11, 1), 2 (0, 24)(0, 11, 2)
-- fields: ; arrays: g0 = 1, g1 = 2; out: [('ret', None)]
abbrev zy_Chooser_leastCover : zNL := (3, [(0, 11)], [], [(0, 11, 1, 1), (0, 11, 2, 2)], [(1, 0, 24, 0), (2, 0, 24, 1)])
theorem zyw_Chooser_leastCover : zv_wf zy_Chooser_leastCover = true := by decide +kernel
theorem zye_Chooser_leastCover : zv_ek2 zy_Chooser_leastCover = true := by decide +kernel
def zm_Chooser_leastCover_l0_b (rc : Nat → Int → Int → Int → (Int → Int) → (Int → Int) → Option (Int)) (x1 : Int) (x2 : Int) (x3 : Int) (g0 : (Int → Int)) (g1 : (Int → Int)) (rec : Int → Option (((Unit) ⊕ (Int)))) (x4 : Int) : Option (((Unit) ⊕ (Int))) := if x4 < x2 then (if x4 < 24 then (cond (zi_ix x4 24) (if (zi_and (g0 x4) x3) = 0 then (rec (zi_w (x4 + 1))) else (if (zi_and (g1 x4) x3) = x3 then ((rc 0 (zi_w (x1 - 1)) x4 (zi_and x3 (zi_xor (g0 x4) (-1))) g0 g1).bind fun r10 => (if r10 = (-1) then (rec (zi_w (x4 + 1))) else (some (.inr (zi_or r10 (zi_shl 1 x4)))))) else (rec (zi_w (x4 + 1))))) none) else (some (.inl ()))) else (some (.inl ()))
def zm_Chooser_leastCover_l0 (rc : Nat → Int → Int → Int → (Int → Int) → (Int → Int) → Option (Int)) (x1 : Int) (x2 : Int) (x3 : Int) (g0 : (Int → Int)) (g1 : (Int → Int)) : Nat → Int → Option (((Unit) ⊕ (Int)))
  | 0, _ => none
  | n + 1, x4 => zm_Chooser_leastCover_l0_b rc x1 x2 x3 g0 g1 (zm_Chooser_leastCover_l0 rc x1 x2 x3 g0 g1 n) x4
def zm_Chooser_leastCover (rc : Nat → Int → Int → Int → (Int → Int) → (Int → Int) → Option (Int)) (x1 : Int) (x2 : Int) (x3 : Int) (g0 : (Int → Int)) (g1 : (Int → Int)) : Option (Int) := if 0 < x1 then ((zm_Chooser_leastCover_l0 rc x1 x2 x3 g0 g1 zi_fu 0).bind fun q12 => Sum.elim (fun e13 => (some (-1))) (fun w14 => some w14) q12) else (if x3 = 0 then (some 0) else (some (-1)))
theorem zd143_0 : decode zxm143.2.1 0 = .ok (.iload_n 1, 1) := by decide +kernel
theorem zd143_1 : decode zxm143.2.1 1 = .ok (.ifCond .gt 13, 3) := by decide +kernel
theorem zd143_4 : decode zxm143.2.1 4 = .ok (.iload_n 3, 1) := by decide +kernel
theorem zd143_5 : decode zxm143.2.1 5 = .ok (.ifCond .ne 7, 3) := by decide +kernel
theorem zd143_8 : decode zxm143.2.1 8 = .ok (.iconst 0, 1) := by decide +kernel
theorem zd143_9 : decode zxm143.2.1 9 = .ok (.goto 4, 3) := by decide +kernel
theorem zd143_12 : decode zxm143.2.1 12 = .ok (.iconst (-1), 1) := by decide +kernel
theorem zd143_13 : decode zxm143.2.1 13 = .ok (.ireturn, 1) := by decide +kernel
theorem zd143_14 : decode zxm143.2.1 14 = .ok (.iconst 0, 1) := by decide +kernel
theorem zd143_15 : decode zxm143.2.1 15 = .ok (.istore 4, 2) := by decide +kernel
theorem zd143_17 : decode zxm143.2.1 17 = .ok (.iload 4, 2) := by decide +kernel
theorem zd143_19 : decode zxm143.2.1 19 = .ok (.iload_n 2, 1) := by decide +kernel
theorem zd143_20 : decode zxm143.2.1 20 = .ok (.if_icmp .ge 89, 3) := by decide +kernel
theorem zd143_23 : decode zxm143.2.1 23 = .ok (.iload 4, 2) := by decide +kernel
theorem zd143_25 : decode zxm143.2.1 25 = .ok (.bipush 24, 2) := by decide +kernel
theorem zd143_27 : decode zxm143.2.1 27 = .ok (.if_icmp .ge 82, 3) := by decide +kernel
theorem zd143_30 : decode zxm143.2.1 30 = .ok (.aload_n 0, 1) := by decide +kernel
theorem zd143_31 : decode zxm143.2.1 31 = .ok (.getfield 15, 3) := by decide +kernel
theorem zd143_34 : decode zxm143.2.1 34 = .ok (.iload 4, 2) := by decide +kernel
theorem zd143_36 : decode zxm143.2.1 36 = .ok (.iaload, 1) := by decide +kernel
theorem zd143_37 : decode zxm143.2.1 37 = .ok (.iload_n 3, 1) := by decide +kernel
theorem zd143_38 : decode zxm143.2.1 38 = .ok (.iand, 1) := by decide +kernel
theorem zd143_39 : decode zxm143.2.1 39 = .ok (.ifCond .eq 20, 3) := by decide +kernel
theorem zd143_42 : decode zxm143.2.1 42 = .ok (.aload_n 0, 1) := by decide +kernel
theorem zd143_43 : decode zxm143.2.1 43 = .ok (.getfield 18, 3) := by decide +kernel
theorem zd143_46 : decode zxm143.2.1 46 = .ok (.iload 4, 2) := by decide +kernel
theorem zd143_48 : decode zxm143.2.1 48 = .ok (.iaload, 1) := by decide +kernel
theorem zd143_49 : decode zxm143.2.1 49 = .ok (.iload_n 3, 1) := by decide +kernel
theorem zd143_50 : decode zxm143.2.1 50 = .ok (.iand, 1) := by decide +kernel
theorem zd143_51 : decode zxm143.2.1 51 = .ok (.iload_n 3, 1) := by decide +kernel
theorem zd143_52 : decode zxm143.2.1 52 = .ok (.if_icmp .ne 7, 3) := by decide +kernel
theorem zd143_55 : decode zxm143.2.1 55 = .ok (.iconst 1, 1) := by decide +kernel
theorem zd143_56 : decode zxm143.2.1 56 = .ok (.goto 4, 3) := by decide +kernel
theorem zd143_59 : decode zxm143.2.1 59 = .ok (.iconst 0, 1) := by decide +kernel
theorem zd143_60 : decode zxm143.2.1 60 = .ok (.istore 5, 2) := by decide +kernel
theorem zd143_62 : decode zxm143.2.1 62 = .ok (.iload 5, 2) := by decide +kernel
theorem zd143_64 : decode zxm143.2.1 64 = .ok (.ifCond .eq 39, 3) := by decide +kernel
theorem zd143_67 : decode zxm143.2.1 67 = .ok (.aload_n 0, 1) := by decide +kernel
theorem zd143_68 : decode zxm143.2.1 68 = .ok (.iload_n 1, 1) := by decide +kernel
theorem zd143_69 : decode zxm143.2.1 69 = .ok (.iconst 1, 1) := by decide +kernel
theorem zd143_70 : decode zxm143.2.1 70 = .ok (.isub, 1) := by decide +kernel
theorem zd143_71 : decode zxm143.2.1 71 = .ok (.iload 4, 2) := by decide +kernel
theorem zd143_73 : decode zxm143.2.1 73 = .ok (.iload_n 3, 1) := by decide +kernel
theorem zd143_74 : decode zxm143.2.1 74 = .ok (.aload_n 0, 1) := by decide +kernel
theorem zd143_75 : decode zxm143.2.1 75 = .ok (.getfield 15, 3) := by decide +kernel
theorem zd143_78 : decode zxm143.2.1 78 = .ok (.iload 4, 2) := by decide +kernel
theorem zd143_80 : decode zxm143.2.1 80 = .ok (.iaload, 1) := by decide +kernel
theorem zd143_81 : decode zxm143.2.1 81 = .ok (.iconst (-1), 1) := by decide +kernel
theorem zd143_82 : decode zxm143.2.1 82 = .ok (.ixor, 1) := by decide +kernel
theorem zd143_83 : decode zxm143.2.1 83 = .ok (.iand, 1) := by decide +kernel
theorem zd143_84 : decode zxm143.2.1 84 = .ok (.invokevirtual 48, 3) := by decide +kernel
theorem zd143_87 : decode zxm143.2.1 87 = .ok (.istore 6, 2) := by decide +kernel
theorem zd143_89 : decode zxm143.2.1 89 = .ok (.iload 6, 2) := by decide +kernel
theorem zd143_91 : decode zxm143.2.1 91 = .ok (.iconst (-1), 1) := by decide +kernel
theorem zd143_92 : decode zxm143.2.1 92 = .ok (.if_icmp .eq 11, 3) := by decide +kernel
theorem zd143_95 : decode zxm143.2.1 95 = .ok (.iload 6, 2) := by decide +kernel
theorem zd143_97 : decode zxm143.2.1 97 = .ok (.iconst 1, 1) := by decide +kernel
theorem zd143_98 : decode zxm143.2.1 98 = .ok (.iload 4, 2) := by decide +kernel
theorem zd143_100 : decode zxm143.2.1 100 = .ok (.ishl, 1) := by decide +kernel
theorem zd143_101 : decode zxm143.2.1 101 = .ok (.ior, 1) := by decide +kernel
theorem zd143_102 : decode zxm143.2.1 102 = .ok (.ireturn, 1) := by decide +kernel
theorem zd143_103 : decode zxm143.2.1 103 = .ok (.iinc 4 1, 3) := by decide +kernel
theorem zd143_106 : decode zxm143.2.1 106 = .ok (.goto (-89), 3) := by decide +kernel
theorem zd143_109 : decode zxm143.2.1 109 = .ok (.iconst (-1), 1) := by decide +kernel
theorem zd143_110 : decode zxm143.2.1 110 = .ok (.ireturn, 1) := by decide +kernel
theorem zts_Chooser_leastCover {dp : Nat} {rc : Nat → Int → Int → Int → (Int → Int) → (Int → Int) → Option (Int)} (ih0 : ∀ (x1 : Int) (x2 : Int) (x3 : Int) (g0 : (Int → Int)) (g1 : (Int → Int)) (o : Int), rc 0 x1 x2 x3 g0 g1 = some o → zv_Fn z_TB z_cl z_KX zy_Chooser_leastCover zxm143 (0 + dp, 60 * (0 + dp)) [.inr 0, .inl x1, .inl x2, .inl x3] [] [g0, g1] (some o) [] [g0, g1]) {x1 : Int} {x2 : Int} {x3 : Int} {g0 : (Int → Int)} {g1 : (Int → Int)} {o : Int} (h : zm_Chooser_leastCover rc x1 x2 x3 g0 g1 = some o) : zv_Fn z_TB z_cl z_KX zy_Chooser_leastCover zxm143 (0 + (dp + 1), 60 * (0 + (dp + 1))) [.inr 0, .inl x1, .inl x2, .inl x3] [] [g0, g1] (some o) [] [g0, g1] := zv_meth (K := (z_KF1, z_KC1, z_KL1, z_KT1, [], [], [], none)) (FT := z_FT) (MT := z_MT) (n := 4) zxp143 (z_ks1 _ (fun _ h => List.mem_cons_of_mem _ h) _ _ _ _ (fun j r h _ => by cases h)) (fun _ _ => zs_KX_p) zyw_Chooser_leastCover (fun va F G h => by obtain ⟨rfl, _⟩ := h; rfl) (fun va F G h => by obtain ⟨rfl, _⟩ := h; rfl) rfl fun good va F G hB hret hvret hP => by
  obtain ⟨rfl, rfl, rfl⟩ := hP
  have l0 : ∀ (n : Nat) (x1 : Int) (x2 : Int) (x3 : Int) (x4 : Int) (q : ((Unit) ⊕ (Int))), zm_Chooser_leastCover_l0 rc x1 x2 x3 g0 g1 n x4 = some q → (Sum.elim (fun e : Unit => good 109 [.inr 1000, .inr 1000, .inr 1000, .inr 1000, .inr 1000, .inr 1000, .inr 1000] [] [] [g0, g1]) (fun w : Int => w = o) q) → good 17 [.inr 0, .inl x1, .inl x2, .inl x3, .inl x4, .inr 1000, .inr 1000] [] [] [g0, g1] := by
    intro n
    induction n with
    | zero => intro x1 x2 x3 x4 q h; exact absurd (show none = some q from h) (fun h => by cases h)
    | succ n ih =>
      intro x1 x2 x3 x4 q h hK
      replace h : zm_Chooser_leastCover_l0_b rc x1 x2 x3 g0 g1 (zm_Chooser_leastCover_l0 rc x1 x2 x3 g0 g1 n) x4 = some q := h
      unfold zm_Chooser_leastCover_l0_b at h
      refine zv_ild hB zd143_17 rfl rfl ?_
      refine zv_ild hB zd143_19 rfl rfl ?_
      refine zv_cge hB zd143_20 rfl (fun hc2 => ?_) (fun hc2 => ?_)
      · rw [if_neg (Int.not_lt.mpr hc2)] at h
        have hq := Option.some.inj h
        subst hq
        refine zv_wk hB (L' := [.inr 1000, .inr 1000, .inr 1000, .inr 1000, .inr 1000, .inr 1000, .inr 1000]) (F' := []) ⟨fun (h : zv_is (.inr 1000)) => (Nat.lt_irrefl 1000 h).elim, fun (h : zv_is (.inr 1000)) => (Nat.lt_irrefl 1000 h).elim, fun (h : zv_is (.inr 1000)) => (Nat.lt_irrefl 1000 h).elim, fun (h : zv_is (.inr 1000)) => (Nat.lt_irrefl 1000 h).elim, fun (h : zv_is (.inr 1000)) => (Nat.lt_irrefl 1000 h).elim, fun (h : zv_is (.inr 1000)) => (Nat.lt_irrefl 1000 h).elim, fun (h : zv_is (.inr 1000)) => (Nat.lt_irrefl 1000 h).elim, trivial⟩ trivial ?_
        exact hK
      · rw [if_pos hc2] at h
        refine zv_ild hB zd143_23 rfl rfl ?_
        refine zv_con hB zd143_25 rfl ?_
        refine zv_cge hB zd143_27 rfl (fun hc3 => ?_) (fun hc3 => ?_)
        · rw [if_neg (Int.not_lt.mpr hc3)] at h
          have hq := Option.some.inj h
          subst hq
          refine zv_wk hB (L' := [.inr 1000, .inr 1000, .inr 1000, .inr 1000, .inr 1000, .inr 1000, .inr 1000]) (F' := []) ⟨fun (h : zv_is (.inr 1000)) => (Nat.lt_irrefl 1000 h).elim, fun (h : zv_is (.inr 1000)) => (Nat.lt_irrefl 1000 h).elim, fun (h : zv_is (.inr 1000)) => (Nat.lt_irrefl 1000 h).elim, fun (h : zv_is (.inr 1000)) => (Nat.lt_irrefl 1000 h).elim, fun (h : zv_is (.inr 1000)) => (Nat.lt_irrefl 1000 h).elim, fun (h : zv_is (.inr 1000)) => (Nat.lt_irrefl 1000 h).elim, fun (h : zv_is (.inr 1000)) => (Nat.lt_irrefl 1000 h).elim, trivial⟩ trivial ?_
          exact hK
        · rw [if_pos hc3] at h
          refine zv_ald hB zd143_30 rfl rfl rfl ?_
          refine zv_getr hB zd143_31 rfl ?_
          refine zv_ild hB zd143_34 rfl rfl ?_
          obtain ⟨c4, h⟩ := zi_if h
          refine zv_iald hB zd143_36 rfl rfl (zi_ix_ok c4).1 (zi_ix_ok c4).2 (fun _ _ => ?_)
          refine zv_ild hB zd143_37 rfl rfl ?_
          refine zv_andw hB zd143_38 ?_
          refine zv_zeq hB zd143_39 rfl (fun hc5 => ?_) (fun hc5 => ?_)
          · rw [if_pos hc5] at h
            refine zv_con hB zd143_59 rfl ?_
            refine zv_ist hB zd143_60 rfl rfl rfl ?_
            refine zv_ild hB zd143_62 rfl rfl ?_
            refine zv_zeq hB zd143_64 rfl (fun _ => ?_) (fun hc => absurd hc (by decide))
            refine zv_iincw hB zd143_103 rfl rfl ?_
            refine zv_goto hB zd143_106 rfl ?_
            refine zv_wk hB (L' := [.inr 0, .inl x1, .inl x2, .inl x3, .inl (zi_w (x4 + 1)), .inr 1000, .inr 1000]) (F' := []) ⟨fun _ => rfl, fun _ => rfl, fun _ => rfl, fun _ => rfl, fun _ => rfl, fun (h : zv_is (.inr 1000)) => (Nat.lt_irrefl 1000 h).elim, fun (h : zv_is (.inr 1000)) => (Nat.lt_irrefl 1000 h).elim, trivial⟩ trivial ?_
            exact ih _ _ _ _ q h hK
          · rw [if_neg hc5] at h
            refine zv_ald hB zd143_42 rfl rfl rfl ?_
            refine zv_getr hB zd143_43 rfl ?_
            refine zv_ild hB zd143_46 rfl rfl ?_
            refine zv_iald hB zd143_48 rfl rfl (zi_ix_ok c4).1 (zi_ix_ok c4).2 (fun _ _ => ?_)
            refine zv_ild hB zd143_49 rfl rfl ?_
            refine zv_andw hB zd143_50 ?_
            refine zv_ild hB zd143_51 rfl rfl ?_
            refine zv_cne hB zd143_52 rfl (fun hc7 => ?_) (fun hc7 => ?_)
            · rw [if_neg hc7] at h
              refine zv_con hB zd143_59 rfl ?_
              refine zv_ist hB zd143_60 rfl rfl rfl ?_
              refine zv_ild hB zd143_62 rfl rfl ?_
              refine zv_zeq hB zd143_64 rfl (fun _ => ?_) (fun hc => absurd hc (by decide))
              refine zv_iincw hB zd143_103 rfl rfl ?_
              refine zv_goto hB zd143_106 rfl ?_
              refine zv_wk hB (L' := [.inr 0, .inl x1, .inl x2, .inl x3, .inl (zi_w (x4 + 1)), .inr 1000, .inr 1000]) (F' := []) ⟨fun _ => rfl, fun _ => rfl, fun _ => rfl, fun _ => rfl, fun _ => rfl, fun (h : zv_is (.inr 1000)) => (Nat.lt_irrefl 1000 h).elim, fun (h : zv_is (.inr 1000)) => (Nat.lt_irrefl 1000 h).elim, trivial⟩ trivial ?_
              exact ih _ _ _ _ q h hK
            · rw [if_pos hc7] at h
              refine zv_con hB zd143_55 rfl ?_
              refine zv_goto hB zd143_56 rfl ?_
              refine zv_ist hB zd143_60 rfl rfl rfl ?_
              refine zv_ild hB zd143_62 rfl rfl ?_
              refine zv_zeq hB zd143_64 rfl (fun hc => absurd hc (by decide)) (fun _ => ?_)
              refine zv_ald hB zd143_67 rfl rfl rfl ?_
              refine zv_ild hB zd143_68 rfl rfl ?_
              refine zv_con hB zd143_69 rfl ?_
              refine zv_subw hB zd143_70 ?_
              refine zv_ild hB zd143_71 rfl rfl ?_
              refine zv_ild hB zd143_73 rfl rfl ?_
              refine zv_ald hB zd143_74 rfl rfl rfl ?_
              refine zv_getr hB zd143_75 rfl ?_
              refine zv_ild hB zd143_78 rfl rfl ?_
              refine zv_iald hB zd143_80 rfl rfl (zi_ix_ok c4).1 (zi_ix_ok c4).2 (fun _ _ => ?_)
              refine zv_con hB zd143_81 rfl ?_
              refine zv_xorw hB zd143_82 ?_
              refine zv_andw hB zd143_83 ?_
              obtain ⟨r10, hr10, h⟩ := zi_bind h
              refine zv_cv hB (show zv_Fn _ _ _ zy_Chooser_leastCover _ _ [.inr 0, .inl (zi_w (x1 - 1)), .inl x4, .inl (zi_and x3 (zi_xor (g0 x4) (-1)))] [] [g0, g1] (some r10) [] [g0, g1] from ih0 _ _ _ _ _ r10 hr10) zd143_84 zxt143 rfl (by show 0 + dp + 1 ≤ 0 + (dp + 1); omega) (by show 8 + (7 + 11) + 60 * (0 + dp) ≤ 60 * (0 + (dp + 1)); omega) rfl ?_
              refine zv_ist hB zd143_87 rfl rfl rfl ?_
              refine zv_ild hB zd143_89 rfl rfl ?_
              refine zv_con hB zd143_91 rfl ?_
              refine zv_ceq hB zd143_92 rfl (fun hc11 => ?_) (fun hc11 => ?_)
              · rw [if_pos hc11] at h
                refine zv_iincw hB zd143_103 rfl rfl ?_
                refine zv_goto hB zd143_106 rfl ?_
                refine zv_wk hB (L' := [.inr 0, .inl x1, .inl x2, .inl x3, .inl (zi_w (x4 + 1)), .inr 1000, .inr 1000]) (F' := []) ⟨fun _ => rfl, fun _ => rfl, fun _ => rfl, fun _ => rfl, fun _ => rfl, fun (h : zv_is (.inr 1000)) => (Nat.lt_irrefl 1000 h).elim, fun (h : zv_is (.inr 1000)) => (Nat.lt_irrefl 1000 h).elim, trivial⟩ trivial ?_
                exact ih _ _ _ _ q h hK
              · rw [if_neg hc11] at h
                refine zv_ild hB zd143_95 rfl rfl ?_
                refine zv_con hB zd143_97 rfl ?_
                refine zv_ild hB zd143_98 rfl rfl ?_
                refine zv_shlw hB zd143_100 ?_
                refine zv_orw hB zd143_101 ?_
                have hw : (zi_or r10 (zi_shl 1 x4)) = o := zi_rk (Option.some.inj h) hK
                subst hw
                exact hret _ _ _ _ _ zd143_102 (by trivial) ⟨rfl, rfl, rfl⟩
  unfold zm_Chooser_leastCover at h
  refine zv_ild hB zd143_0 rfl rfl ?_
  refine zv_zgt hB zd143_1 rfl (fun hc1 => ?_) (fun hc1 => ?_)
  · rw [if_pos hc1] at h
    refine zv_con hB zd143_14 rfl ?_
    refine zv_ist hB zd143_15 rfl rfl rfl ?_
    obtain ⟨q12, hq12, h⟩ := zi_bind h
    refine l0 _ _ _ _ _ q12 hq12 ?_
    rcases q12 with e13 | w14
    · replace h := zi_sl h
      show good 109 [.inr 1000, .inr 1000, .inr 1000, .inr 1000, .inr 1000, .inr 1000, .inr 1000] [] [] [g0, g1]
      refine zv_con hB zd143_109 rfl ?_
      have hw := Option.some.inj h
      subst hw
      exact hret _ _ _ _ _ zd143_110 (by trivial) ⟨rfl, rfl, rfl⟩
    · exact Option.some.inj h
  · rw [if_neg (Int.not_lt.mpr hc1)] at h
    refine zv_ild hB zd143_4 rfl rfl ?_
    refine zv_zne hB zd143_5 rfl (fun hc15 => ?_) (fun hc15 => ?_)
    · rw [if_neg hc15] at h
      refine zv_con hB zd143_12 rfl ?_
      have hw := Option.some.inj h
      subst hw
      exact hret _ _ _ _ _ zd143_13 (by trivial) ⟨rfl, rfl, rfl⟩
    · rw [if_pos hc15] at h
      refine zv_con hB zd143_8 rfl ?_
      refine zv_goto hB zd143_9 rfl ?_
      have hw := Option.some.inj h
      subst hw
      exact hret _ _ _ _ _ zd143_13 (by trivial) ⟨rfl, rfl, rfl⟩
def zg_Chooser_leastCover : Nat → Nat → Int → Int → Int → (Int → Int) → (Int → Int) → Option (Int)
  | 0, _, _, _, _, _, _ => none
  | n + 1, _, x1, x2, x3, g0, g1 => zm_Chooser_leastCover (zg_Chooser_leastCover n) x1 x2 x3 g0 g1
theorem ztg_Chooser_leastCover : ∀ n : Nat, (∀ (x1 : Int) (x2 : Int) (x3 : Int) (g0 : (Int → Int)) (g1 : (Int → Int)) (o : Int), zg_Chooser_leastCover n 0 x1 x2 x3 g0 g1 = some o → zv_Fn z_TB z_cl z_KX zy_Chooser_leastCover zxm143 (0 + n, 60 * (0 + n)) [.inr 0, .inl x1, .inl x2, .inl x3] [] [g0, g1] (some o) [] [g0, g1]) := by
  intro n
  induction n with
  | zero => exact fun _ _ _ _ _ o h => absurd (show none = some o from h) (fun h => by cases h)
  | succ n ih =>
    have ih0 := ih
    exact fun _ _ _ _ _ o h => zts_Chooser_leastCover (rc := zg_Chooser_leastCover n) ih0 h
def zf_Chooser_leastCover (x1 : Int) (x2 : Int) (x3 : Int) (g0 : (Int → Int)) (g1 : (Int → Int)) : Option (Int) := zg_Chooser_leastCover 9 0 x1 x2 x3 g0 g1
theorem zt_Chooser_leastCover {x1 : Int} {x2 : Int} {x3 : Int} {g0 : (Int → Int)} {g1 : (Int → Int)} {o : Int} (h : zf_Chooser_leastCover x1 x2 x3 g0 g1 = some o) : zv_Fn z_TB z_cl z_KX zy_Chooser_leastCover zxm143 (9, 540) [.inr 0, .inl x1, .inl x2, .inl x3] [] [g0, g1] (some o) [] [g0, g1] := (ztg_Chooser_leastCover 9) _ _ _ _ _ o h
/-! Chooser_fewestNamed (I)I -/
-- names: 0 Chooser('arg', 0), 1 (0, 24)(0, 11, 1), 2 (0, 8)(0, 11, 0), 3 (0, 24)(0, 11, 2)
-- fields: ; arrays: g0 = 1, g1 = 2, g2 = 3; out: [('ret', None), ('g', 0), ('g', 2)]
abbrev zy_Chooser_fewestNamed : zNL := (4, [(0, 11)], [], [(0, 11, 1, 1), (0, 11, 0, 2), (0, 11, 2, 3)], [(1, 0, 24, 0), (2, 0, 8, 1), (3, 0, 24, 2)])
theorem zyw_Chooser_fewestNamed : zv_wf zy_Chooser_fewestNamed = true := by decide +kernel
theorem zye_Chooser_fewestNamed : zv_ek2 zy_Chooser_fewestNamed = true := by decide +kernel
def zf_Chooser_fewestNamed_l1_b (x4 : Int) (rec : Int → (Int → Int) → Option ((Int → Int))) (x5 : Int) (g0 : (Int → Int)) : Option ((Int → Int)) := if x5 < x4 then (cond (zi_ix x5 24) (cond (zi_ix x4 24) (if (g0 x5) = (g0 x4) then (rec (zi_w (x5 + 1)) (zv_up g0 x4 0)) else (rec (zi_w (x5 + 1)) g0)) none) none) else (some g0)
def zf_Chooser_fewestNamed_l1 (x4 : Int) : Nat → Int → (Int → Int) → Option ((Int → Int))
  | 0, _, _ => none
  | n + 1, x5, g0 => zf_Chooser_fewestNamed_l1_b x4 (zf_Chooser_fewestNamed_l1 x4 n) x5 g0
def zf_Chooser_fewestNamed_l0_b (x2 : Int) (g1 : (Int → Int)) (rec : Int → Int → (Int → Int) → (Int → Int) → Option (Int × (Int → Int) × (Int → Int))) (x3 : Int) (x4 : Int) (g0 : (Int → Int)) (g2 : (Int → Int)) : Option (Int × (Int → Int) × (Int → Int)) := if x4 < 24 then ((zf_Chooser_pairsApart x4 x2 g1).bind fun r3 => (cond (zi_ix x4 24) ((zf_Chooser_fewestNamed_l1 x4 zi_fu 0 (zv_up g0 x4 r3)).bind fun q9 => (rec (zi_or x3 (q9 x4)) (zi_w (x4 + 1)) q9 (zv_up g2 x4 (zi_or x3 (q9 x4))))) none)) else (some (x3, g0, g2))
def zf_Chooser_fewestNamed_l0 (x2 : Int) (g1 : (Int → Int)) : Nat → Int → Int → (Int → Int) → (Int → Int) → Option (Int × (Int → Int) × (Int → Int))
  | 0, _, _, _, _ => none
  | n + 1, x3, x4, g0, g2 => zf_Chooser_fewestNamed_l0_b x2 g1 (zf_Chooser_fewestNamed_l0 x2 g1 n) x3 x4 g0 g2
def zf_Chooser_fewestNamed_l2_b (x2 : Int) (x3 : Int) (g0 : (Int → Int)) (g2 : (Int → Int)) (rec : Int → Option (((Unit) ⊕ (Int × (Int → Int) × (Int → Int))))) (x5 : Int) : Option (((Unit) ⊕ (Int × (Int → Int) × (Int → Int)))) := if x5 < x2 then ((zf_Chooser_leastCover x5 24 x3 g0 g2).bind fun r14 => (if r14 = (-1) then (rec (zi_w (x5 + 1))) else (some (.inr (r14, g0, g2))))) else (some (.inl ()))
def zf_Chooser_fewestNamed_l2 (x2 : Int) (x3 : Int) (g0 : (Int → Int)) (g2 : (Int → Int)) : Nat → Int → Option (((Unit) ⊕ (Int × (Int → Int) × (Int → Int))))
  | 0, _ => none
  | n + 1, x5 => zf_Chooser_fewestNamed_l2_b x2 x3 g0 g2 (zf_Chooser_fewestNamed_l2 x2 x3 g0 g2 n) x5
def zf_Chooser_fewestNamed (x1 : Int) (g0 : (Int → Int)) (g1 : (Int → Int)) (g2 : (Int → Int)) : Option (Int × (Int → Int) × (Int → Int)) := (zf_Math_min x1 8).bind fun r1 => ((zf_Chooser_fewestNamed_l0 r1 g1 zi_fu 0 0 g0 g2).bind fun q10 => ((zf_Integer_bitCount q10.1).bind fun r11 => (if r11 = (zi_div (zi_w (r1 * (zi_w (r1 - 1)))) 2) then ((zf_Chooser_fewestNamed_l2 r1 q10.1 q10.2.1 q10.2.2 zi_fu 1).bind fun q16 => Sum.elim (fun e17 => (some ((-1), q10.2.1, q10.2.2))) (fun w18 => some w18) q16) else (some ((-1), q10.2.1, q10.2.2)))))
theorem zd141_0 : decode zxm141.2.1 0 = .ok (.iload_n 1, 1) := by decide +kernel
theorem zd141_1 : decode zxm141.2.1 1 = .ok (.bipush 8, 2) := by decide +kernel
theorem zd141_3 : decode zxm141.2.1 3 = .ok (.invokestatic 33, 3) := by decide +kernel
theorem zd141_6 : decode zxm141.2.1 6 = .ok (.istore_n 2, 1) := by decide +kernel
theorem zd141_7 : decode zxm141.2.1 7 = .ok (.iconst 0, 1) := by decide +kernel
theorem zd141_8 : decode zxm141.2.1 8 = .ok (.istore_n 3, 1) := by decide +kernel
theorem zd141_9 : decode zxm141.2.1 9 = .ok (.iconst 0, 1) := by decide +kernel
theorem zd141_10 : decode zxm141.2.1 10 = .ok (.istore 4, 2) := by decide +kernel
theorem zd141_12 : decode zxm141.2.1 12 = .ok (.iload 4, 2) := by decide +kernel
theorem zd141_14 : decode zxm141.2.1 14 = .ok (.bipush 24, 2) := by decide +kernel
theorem zd141_16 : decode zxm141.2.1 16 = .ok (.if_icmp .ge 82, 3) := by decide +kernel
theorem zd141_19 : decode zxm141.2.1 19 = .ok (.aload_n 0, 1) := by decide +kernel
theorem zd141_20 : decode zxm141.2.1 20 = .ok (.getfield 15, 3) := by decide +kernel
theorem zd141_23 : decode zxm141.2.1 23 = .ok (.iload 4, 2) := by decide +kernel
theorem zd141_25 : decode zxm141.2.1 25 = .ok (.aload_n 0, 1) := by decide +kernel
theorem zd141_26 : decode zxm141.2.1 26 = .ok (.iload 4, 2) := by decide +kernel
theorem zd141_28 : decode zxm141.2.1 28 = .ok (.iload_n 2, 1) := by decide +kernel
theorem zd141_29 : decode zxm141.2.1 29 = .ok (.invokevirtual 39, 3) := by decide +kernel
theorem zd141_32 : decode zxm141.2.1 32 = .ok (.iastore, 1) := by decide +kernel
theorem zd141_33 : decode zxm141.2.1 33 = .ok (.iconst 0, 1) := by decide +kernel
theorem zd141_34 : decode zxm141.2.1 34 = .ok (.istore 5, 2) := by decide +kernel
theorem zd141_36 : decode zxm141.2.1 36 = .ok (.iload 5, 2) := by decide +kernel
theorem zd141_38 : decode zxm141.2.1 38 = .ok (.iload 4, 2) := by decide +kernel
theorem zd141_40 : decode zxm141.2.1 40 = .ok (.if_icmp .ge 34, 3) := by decide +kernel
theorem zd141_43 : decode zxm141.2.1 43 = .ok (.aload_n 0, 1) := by decide +kernel
theorem zd141_44 : decode zxm141.2.1 44 = .ok (.getfield 15, 3) := by decide +kernel
theorem zd141_47 : decode zxm141.2.1 47 = .ok (.iload 5, 2) := by decide +kernel
theorem zd141_49 : decode zxm141.2.1 49 = .ok (.iaload, 1) := by decide +kernel
theorem zd141_50 : decode zxm141.2.1 50 = .ok (.aload_n 0, 1) := by decide +kernel
theorem zd141_51 : decode zxm141.2.1 51 = .ok (.getfield 15, 3) := by decide +kernel
theorem zd141_54 : decode zxm141.2.1 54 = .ok (.iload 4, 2) := by decide +kernel
theorem zd141_56 : decode zxm141.2.1 56 = .ok (.iaload, 1) := by decide +kernel
theorem zd141_57 : decode zxm141.2.1 57 = .ok (.if_icmp .ne 11, 3) := by decide +kernel
theorem zd141_60 : decode zxm141.2.1 60 = .ok (.aload_n 0, 1) := by decide +kernel
theorem zd141_61 : decode zxm141.2.1 61 = .ok (.getfield 15, 3) := by decide +kernel
theorem zd141_64 : decode zxm141.2.1 64 = .ok (.iload 4, 2) := by decide +kernel
theorem zd141_66 : decode zxm141.2.1 66 = .ok (.iconst 0, 1) := by decide +kernel
theorem zd141_67 : decode zxm141.2.1 67 = .ok (.iastore, 1) := by decide +kernel
theorem zd141_68 : decode zxm141.2.1 68 = .ok (.iinc 5 1, 3) := by decide +kernel
theorem zd141_71 : decode zxm141.2.1 71 = .ok (.goto (-35), 3) := by decide +kernel
theorem zd141_74 : decode zxm141.2.1 74 = .ok (.iload_n 3, 1) := by decide +kernel
theorem zd141_75 : decode zxm141.2.1 75 = .ok (.aload_n 0, 1) := by decide +kernel
theorem zd141_76 : decode zxm141.2.1 76 = .ok (.getfield 15, 3) := by decide +kernel
theorem zd141_79 : decode zxm141.2.1 79 = .ok (.iload 4, 2) := by decide +kernel
theorem zd141_81 : decode zxm141.2.1 81 = .ok (.iaload, 1) := by decide +kernel
theorem zd141_82 : decode zxm141.2.1 82 = .ok (.ior, 1) := by decide +kernel
theorem zd141_83 : decode zxm141.2.1 83 = .ok (.istore_n 3, 1) := by decide +kernel
theorem zd141_84 : decode zxm141.2.1 84 = .ok (.aload_n 0, 1) := by decide +kernel
theorem zd141_85 : decode zxm141.2.1 85 = .ok (.getfield 18, 3) := by decide +kernel
theorem zd141_88 : decode zxm141.2.1 88 = .ok (.iload 4, 2) := by decide +kernel
theorem zd141_90 : decode zxm141.2.1 90 = .ok (.iload_n 3, 1) := by decide +kernel
theorem zd141_91 : decode zxm141.2.1 91 = .ok (.iastore, 1) := by decide +kernel
theorem zd141_92 : decode zxm141.2.1 92 = .ok (.iinc 4 1, 3) := by decide +kernel
theorem zd141_95 : decode zxm141.2.1 95 = .ok (.goto (-83), 3) := by decide +kernel
theorem zd141_98 : decode zxm141.2.1 98 = .ok (.iload_n 2, 1) := by decide +kernel
theorem zd141_99 : decode zxm141.2.1 99 = .ok (.iload_n 2, 1) := by decide +kernel
theorem zd141_100 : decode zxm141.2.1 100 = .ok (.iconst 1, 1) := by decide +kernel
theorem zd141_101 : decode zxm141.2.1 101 = .ok (.isub, 1) := by decide +kernel
theorem zd141_102 : decode zxm141.2.1 102 = .ok (.imul, 1) := by decide +kernel
theorem zd141_103 : decode zxm141.2.1 103 = .ok (.iconst 2, 1) := by decide +kernel
theorem zd141_104 : decode zxm141.2.1 104 = .ok (.idiv, 1) := by decide +kernel
theorem zd141_105 : decode zxm141.2.1 105 = .ok (.istore 4, 2) := by decide +kernel
theorem zd141_107 : decode zxm141.2.1 107 = .ok (.iload_n 3, 1) := by decide +kernel
theorem zd141_108 : decode zxm141.2.1 108 = .ok (.invokestatic 42, 3) := by decide +kernel
theorem zd141_111 : decode zxm141.2.1 111 = .ok (.iload 4, 2) := by decide +kernel
theorem zd141_113 : decode zxm141.2.1 113 = .ok (.if_icmp .eq 5, 3) := by decide +kernel
theorem zd141_116 : decode zxm141.2.1 116 = .ok (.iconst (-1), 1) := by decide +kernel
theorem zd141_117 : decode zxm141.2.1 117 = .ok (.ireturn, 1) := by decide +kernel
theorem zd141_118 : decode zxm141.2.1 118 = .ok (.iconst 1, 1) := by decide +kernel
theorem zd141_119 : decode zxm141.2.1 119 = .ok (.istore 5, 2) := by decide +kernel
theorem zd141_121 : decode zxm141.2.1 121 = .ok (.iload 5, 2) := by decide +kernel
theorem zd141_123 : decode zxm141.2.1 123 = .ok (.iload_n 2, 1) := by decide +kernel
theorem zd141_124 : decode zxm141.2.1 124 = .ok (.if_icmp .ge 29, 3) := by decide +kernel
theorem zd141_127 : decode zxm141.2.1 127 = .ok (.aload_n 0, 1) := by decide +kernel
theorem zd141_128 : decode zxm141.2.1 128 = .ok (.iload 5, 2) := by decide +kernel
theorem zd141_130 : decode zxm141.2.1 130 = .ok (.bipush 24, 2) := by decide +kernel
theorem zd141_132 : decode zxm141.2.1 132 = .ok (.iload_n 3, 1) := by decide +kernel
theorem zd141_133 : decode zxm141.2.1 133 = .ok (.invokevirtual 48, 3) := by decide +kernel
theorem zd141_136 : decode zxm141.2.1 136 = .ok (.istore 6, 2) := by decide +kernel
theorem zd141_138 : decode zxm141.2.1 138 = .ok (.iload 6, 2) := by decide +kernel
theorem zd141_140 : decode zxm141.2.1 140 = .ok (.iconst (-1), 1) := by decide +kernel
theorem zd141_141 : decode zxm141.2.1 141 = .ok (.if_icmp .eq 6, 3) := by decide +kernel
theorem zd141_144 : decode zxm141.2.1 144 = .ok (.iload 6, 2) := by decide +kernel
theorem zd141_146 : decode zxm141.2.1 146 = .ok (.ireturn, 1) := by decide +kernel
theorem zd141_147 : decode zxm141.2.1 147 = .ok (.iinc 5 1, 3) := by decide +kernel
theorem zd141_150 : decode zxm141.2.1 150 = .ok (.goto (-29), 3) := by decide +kernel
theorem zd141_153 : decode zxm141.2.1 153 = .ok (.iconst (-1), 1) := by decide +kernel
theorem zd141_154 : decode zxm141.2.1 154 = .ok (.ireturn, 1) := by decide +kernel
theorem zt_Chooser_fewestNamed {x1 : Int} {g0 : (Int → Int)} {g1 : (Int → Int)} {g2 : (Int → Int)} {o : Int × (Int → Int) × (Int → Int)} (h : zf_Chooser_fewestNamed x1 g0 g1 g2 = some o) : zv_Fn z_TB z_cl z_KX zy_Chooser_fewestNamed zxm141 (10, 600) [.inr 0, .inl x1] [] [g0, g1, g2] (some o.1) [] [o.2.1, g1, o.2.2] := zv_meth (K := (z_KF1, z_KC1, z_KL1, z_KT1, [], [], [], none)) (FT := z_FT) (MT := z_MT) (n := 2) zxp141 (z_ks1 _ (fun _ h => List.mem_cons_of_mem _ h) _ _ _ _ (fun j r h _ => by cases h)) (fun _ _ => zs_KX_p) zyw_Chooser_fewestNamed (fun va F G h => by obtain ⟨rfl, _⟩ := h; rfl) (fun va F G h => by obtain ⟨rfl, _⟩ := h; rfl) rfl fun good va F G hB hret hvret hP => by
  obtain ⟨rfl, rfl, rfl⟩ := hP
  have l1 : ∀ (n : Nat) (x2 : Int) (x3 : Int) (x4 : Int) (x5 : Int) (g0 : (Int → Int)) (g2 : (Int → Int)) (q : (Int → Int)), zf_Chooser_fewestNamed_l1 x4 n x5 g0 = some q → (good 74 [.inr 0, .inr 1000, .inl x2, .inl x3, .inl x4, .inr 1000, .inr 1000] [] [] [q, g1, g2]) → good 36 [.inr 0, .inr 1000, .inl x2, .inl x3, .inl x4, .inl x5, .inr 1000] [] [] [g0, g1, g2] := by
    intro n
    induction n with
    | zero => intro x2 x3 x4 x5 g0 g2 q h; exact absurd (show none = some q from h) (fun h => by cases h)
    | succ n ih =>
      intro x2 x3 x4 x5 g0 g2 q h hK
      replace h : zf_Chooser_fewestNamed_l1_b x4 (zf_Chooser_fewestNamed_l1 x4 n) x5 g0 = some q := h
      unfold zf_Chooser_fewestNamed_l1_b at h
      refine zv_ild hB zd141_36 rfl rfl ?_
      refine zv_ild hB zd141_38 rfl rfl ?_
      refine zv_cge hB zd141_40 rfl (fun hc5 => ?_) (fun hc5 => ?_)
      · rw [if_neg (Int.not_lt.mpr hc5)] at h
        have hq := Option.some.inj h
        subst hq
        refine zv_wk hB (L' := [.inr 0, .inr 1000, .inl x2, .inl x3, .inl x4, .inr 1000, .inr 1000]) (F' := []) ⟨fun _ => rfl, fun (h : zv_is (.inr 1000)) => (Nat.lt_irrefl 1000 h).elim, fun _ => rfl, fun _ => rfl, fun _ => rfl, fun (h : zv_is (.inr 1000)) => (Nat.lt_irrefl 1000 h).elim, fun (h : zv_is (.inr 1000)) => (Nat.lt_irrefl 1000 h).elim, trivial⟩ trivial ?_
        exact hK
      · rw [if_pos hc5] at h
        refine zv_ald hB zd141_43 rfl rfl rfl ?_
        refine zv_getr hB zd141_44 rfl ?_
        refine zv_ild hB zd141_47 rfl rfl ?_
        obtain ⟨c6, h⟩ := zi_if h
        refine zv_iald hB zd141_49 rfl rfl (zi_ix_ok c6).1 (zi_ix_ok c6).2 (fun _ _ => ?_)
        refine zv_ald hB zd141_50 rfl rfl rfl ?_
        refine zv_getr hB zd141_51 rfl ?_
        refine zv_ild hB zd141_54 rfl rfl ?_
        obtain ⟨c7, h⟩ := zi_if h
        refine zv_iald hB zd141_56 rfl rfl (zi_ix_ok c7).1 (zi_ix_ok c7).2 (fun _ _ => ?_)
        refine zv_cne hB zd141_57 rfl (fun hc8 => ?_) (fun hc8 => ?_)
        · rw [if_neg hc8] at h
          refine zv_iincw hB zd141_68 rfl rfl ?_
          refine zv_goto hB zd141_71 rfl ?_
          exact ih _ _ _ _ _ _ q h hK
        · rw [if_pos hc8] at h
          refine zv_ald hB zd141_60 rfl rfl rfl ?_
          refine zv_getr hB zd141_61 rfl ?_
          refine zv_ild hB zd141_64 rfl rfl ?_
          refine zv_con hB zd141_66 rfl ?_
          refine zv_iast hB zd141_67 rfl rfl (zi_ix_ok c7).1 (zi_ix_ok c7).2 ?_
          refine zv_iincw hB zd141_68 rfl rfl ?_
          refine zv_goto hB zd141_71 rfl ?_
          exact ih _ _ _ _ _ _ q h hK
  have l0 : ∀ (n : Nat) (x2 : Int) (x3 : Int) (x4 : Int) (g0 : (Int → Int)) (g2 : (Int → Int)) (q : Int × (Int → Int) × (Int → Int)), zf_Chooser_fewestNamed_l0 x2 g1 n x3 x4 g0 g2 = some q → (good 98 [.inr 0, .inr 1000, .inl x2, .inl q.1, .inr 1000, .inr 1000, .inr 1000] [] [] [q.2.1, g1, q.2.2]) → good 12 [.inr 0, .inr 1000, .inl x2, .inl x3, .inl x4, .inr 1000, .inr 1000] [] [] [g0, g1, g2] := by
    intro n
    induction n with
    | zero => intro x2 x3 x4 g0 g2 q h; exact absurd (show none = some q from h) (fun h => by cases h)
    | succ n ih =>
      intro x2 x3 x4 g0 g2 q h hK
      replace h : zf_Chooser_fewestNamed_l0_b x2 g1 (zf_Chooser_fewestNamed_l0 x2 g1 n) x3 x4 g0 g2 = some q := h
      unfold zf_Chooser_fewestNamed_l0_b at h
      refine zv_ild hB zd141_12 rfl rfl ?_
      refine zv_con hB zd141_14 rfl ?_
      refine zv_cge hB zd141_16 rfl (fun hc2 => ?_) (fun hc2 => ?_)
      · rw [if_neg (Int.not_lt.mpr hc2)] at h
        have hq := Option.some.inj h
        subst hq
        refine zv_wk hB (L' := [.inr 0, .inr 1000, .inl x2, .inl x3, .inr 1000, .inr 1000, .inr 1000]) (F' := []) ⟨fun _ => rfl, fun (h : zv_is (.inr 1000)) => (Nat.lt_irrefl 1000 h).elim, fun _ => rfl, fun _ => rfl, fun (h : zv_is (.inr 1000)) => (Nat.lt_irrefl 1000 h).elim, fun (h : zv_is (.inr 1000)) => (Nat.lt_irrefl 1000 h).elim, fun (h : zv_is (.inr 1000)) => (Nat.lt_irrefl 1000 h).elim, trivial⟩ trivial ?_
        exact hK
      · rw [if_pos hc2] at h
        refine zv_ald hB zd141_19 rfl rfl rfl ?_
        refine zv_getr hB zd141_20 rfl ?_
        refine zv_ild hB zd141_23 rfl rfl ?_
        refine zv_ald hB zd141_25 rfl rfl rfl ?_
        refine zv_ild hB zd141_26 rfl rfl ?_
        refine zv_ild hB zd141_28 rfl rfl ?_
        obtain ⟨r3, hr3, h⟩ := zi_bind h
        refine zv_cv hB (zv_emq (va2 := [.inr 0, .inl x4, .inl x2]) (F := []) (F' := []) (G := [g0, g1, g2]) (G' := [g0, g1, g2]) (ρ := [0, 2]) (φ := []) (ψ := [1]) [] [none, some 0, none] zyw_Chooser_pairsApart zyw_Chooser_fewestNamed zye_Chooser_fewestNamed (by decide +kernel) (zt_Chooser_pairsApart hr3) trivial ⟨rfl, trivial⟩ rfl rfl rfl rfl rfl rfl rfl) zd141_29 zxt142 rfl (by decide) (by decide) rfl ?_
        obtain ⟨c4, h⟩ := zi_if h
        refine zv_iast hB zd141_32 rfl rfl (zi_ix_ok c4).1 (zi_ix_ok c4).2 ?_
        refine zv_con hB zd141_33 rfl ?_
        refine zv_ist hB zd141_34 rfl rfl rfl ?_
        obtain ⟨q9, hq9, h⟩ := zi_bind h
        refine l1 _ _ _ _ _ _ _ q9 hq9 ?_
        show good 74 [.inr 0, .inr 1000, .inl x2, .inl x3, .inl x4, .inr 1000, .inr 1000] [] [] [q9, g1, g2]
        refine zv_ild hB zd141_74 rfl rfl ?_
        refine zv_ald hB zd141_75 rfl rfl rfl ?_
        refine zv_getr hB zd141_76 rfl ?_
        refine zv_ild hB zd141_79 rfl rfl ?_
        refine zv_iald hB zd141_81 rfl rfl (zi_ix_ok c4).1 (zi_ix_ok c4).2 (fun _ _ => ?_)
        refine zv_orw hB zd141_82 ?_
        refine zv_ist hB zd141_83 rfl rfl rfl ?_
        refine zv_ald hB zd141_84 rfl rfl rfl ?_
        refine zv_getr hB zd141_85 rfl ?_
        refine zv_ild hB zd141_88 rfl rfl ?_
        refine zv_ild hB zd141_90 rfl rfl ?_
        refine zv_iast hB zd141_91 rfl rfl (zi_ix_ok c4).1 (zi_ix_ok c4).2 ?_
        refine zv_iincw hB zd141_92 rfl rfl ?_
        refine zv_goto hB zd141_95 rfl ?_
        exact ih _ _ _ _ _ q h hK
  have l2 : ∀ (n : Nat) (x2 : Int) (x3 : Int) (x5 : Int) (g0 : (Int → Int)) (g2 : (Int → Int)) (q : ((Unit) ⊕ (Int × (Int → Int) × (Int → Int)))), zf_Chooser_fewestNamed_l2 x2 x3 g0 g2 n x5 = some q → (Sum.elim (fun e : Unit => good 153 [.inr 1000, .inr 1000, .inr 1000, .inr 1000, .inr 1000, .inr 1000, .inr 1000] [] [] [g0, g1, g2]) (fun w : Int × (Int → Int) × (Int → Int) => w = o) q) → good 121 [.inr 0, .inr 1000, .inl x2, .inl x3, .inr 1000, .inl x5, .inr 1000] [] [] [g0, g1, g2] := by
    intro n
    induction n with
    | zero => intro x2 x3 x5 g0 g2 q h; exact absurd (show none = some q from h) (fun h => by cases h)
    | succ n ih =>
      intro x2 x3 x5 g0 g2 q h hK
      replace h : zf_Chooser_fewestNamed_l2_b x2 x3 g0 g2 (zf_Chooser_fewestNamed_l2 x2 x3 g0 g2 n) x5 = some q := h
      unfold zf_Chooser_fewestNamed_l2_b at h
      refine zv_ild hB zd141_121 rfl rfl ?_
      refine zv_ild hB zd141_123 rfl rfl ?_
      refine zv_cge hB zd141_124 rfl (fun hc13 => ?_) (fun hc13 => ?_)
      · rw [if_neg (Int.not_lt.mpr hc13)] at h
        have hq := Option.some.inj h
        subst hq
        refine zv_wk hB (L' := [.inr 1000, .inr 1000, .inr 1000, .inr 1000, .inr 1000, .inr 1000, .inr 1000]) (F' := []) ⟨fun (h : zv_is (.inr 1000)) => (Nat.lt_irrefl 1000 h).elim, fun (h : zv_is (.inr 1000)) => (Nat.lt_irrefl 1000 h).elim, fun (h : zv_is (.inr 1000)) => (Nat.lt_irrefl 1000 h).elim, fun (h : zv_is (.inr 1000)) => (Nat.lt_irrefl 1000 h).elim, fun (h : zv_is (.inr 1000)) => (Nat.lt_irrefl 1000 h).elim, fun (h : zv_is (.inr 1000)) => (Nat.lt_irrefl 1000 h).elim, fun (h : zv_is (.inr 1000)) => (Nat.lt_irrefl 1000 h).elim, trivial⟩ trivial ?_
        exact hK
      · rw [if_pos hc13] at h
        refine zv_ald hB zd141_127 rfl rfl rfl ?_
        refine zv_ild hB zd141_128 rfl rfl ?_
        refine zv_con hB zd141_130 rfl ?_
        refine zv_ild hB zd141_132 rfl rfl ?_
        obtain ⟨r14, hr14, h⟩ := zi_bind h
        refine zv_cv hB (zv_emq (va2 := [.inr 0, .inl x5, .inl 24, .inl x3]) (F := []) (F' := []) (G := [g0, g1, g2]) (G' := [g0, g1, g2]) (ρ := [0, 1, 3]) (φ := []) (ψ := [0, 2]) [] [some 0, none, some 1] zyw_Chooser_leastCover zyw_Chooser_fewestNamed zye_Chooser_fewestNamed (by decide +kernel) (zt_Chooser_leastCover hr14) trivial ⟨rfl, rfl, trivial⟩ rfl rfl rfl rfl rfl rfl rfl) zd141_133 zxt143 rfl (by decide) (by decide) rfl ?_
        refine zv_ist hB zd141_136 rfl rfl rfl ?_
        refine zv_ild hB zd141_138 rfl rfl ?_
        refine zv_con hB zd141_140 rfl ?_
        refine zv_ceq hB zd141_141 rfl (fun hc15 => ?_) (fun hc15 => ?_)
        · rw [if_pos hc15] at h
          refine zv_iincw hB zd141_147 rfl rfl ?_
          refine zv_goto hB zd141_150 rfl ?_
          refine zv_wk hB (L' := [.inr 0, .inr 1000, .inl x2, .inl x3, .inr 1000, .inl (zi_w (x5 + 1)), .inr 1000]) (F' := []) ⟨fun _ => rfl, fun (h : zv_is (.inr 1000)) => (Nat.lt_irrefl 1000 h).elim, fun _ => rfl, fun _ => rfl, fun (h : zv_is (.inr 1000)) => (Nat.lt_irrefl 1000 h).elim, fun _ => rfl, fun (h : zv_is (.inr 1000)) => (Nat.lt_irrefl 1000 h).elim, trivial⟩ trivial ?_
          exact ih _ _ _ _ _ q h hK
        · rw [if_neg hc15] at h
          refine zv_ild hB zd141_144 rfl rfl ?_
          have hw : (r14, g0, g2) = o := zi_rk (Option.some.inj h) hK
          subst hw
          exact hret _ _ _ _ _ zd141_146 (by trivial) ⟨rfl, rfl, rfl⟩
  unfold zf_Chooser_fewestNamed at h
  refine zv_ild hB zd141_0 rfl rfl ?_
  refine zv_con hB zd141_1 rfl ?_
  obtain ⟨r1, hr1, h⟩ := zi_bind h
  refine zv_cs hB (zv_emq (va2 := [.inl x1, .inl 8]) (F := []) (F' := []) (G := [g0, g1, g2]) (G' := [g0, g1, g2]) (ρ := []) (φ := []) (ψ := []) [] [none, none, none] zyw_Math_min zyw_Chooser_fewestNamed zye_Chooser_fewestNamed (by decide +kernel) (zt_Math_min hr1) trivial trivial rfl rfl rfl rfl rfl rfl rfl) zd141_3 zxt37 rfl (by decide) (by decide) rfl ?_
  refine zv_ist hB zd141_6 rfl rfl rfl ?_
  refine zv_con hB zd141_7 rfl ?_
  refine zv_ist hB zd141_8 rfl rfl rfl ?_
  refine zv_con hB zd141_9 rfl ?_
  refine zv_ist hB zd141_10 rfl rfl rfl ?_
  obtain ⟨q10, hq10, h⟩ := zi_bind h
  refine zv_wk hB (L' := [.inr 0, .inr 1000, .inl r1, .inl 0, .inl 0, .inr 1000, .inr 1000]) (F' := []) ⟨fun _ => rfl, fun (h : zv_is (.inr 1000)) => (Nat.lt_irrefl 1000 h).elim, fun _ => rfl, fun _ => rfl, fun _ => rfl, fun (h : zv_is (.inr 1000)) => (Nat.lt_irrefl 1000 h).elim, fun (h : zv_is (.inr 1000)) => (Nat.lt_irrefl 1000 h).elim, trivial⟩ trivial ?_
  refine l0 _ _ _ _ _ _ q10 hq10 ?_
  show good 98 [.inr 0, .inr 1000, .inl r1, .inl q10.1, .inr 1000, .inr 1000, .inr 1000] [] [] [q10.2.1, g1, q10.2.2]
  refine zv_ild hB zd141_98 rfl rfl ?_
  refine zv_ild hB zd141_99 rfl rfl ?_
  refine zv_con hB zd141_100 rfl ?_
  refine zv_subw hB zd141_101 ?_
  refine zv_mulw hB zd141_102 ?_
  refine zv_con hB zd141_103 rfl ?_
  refine zv_divw hB zd141_104 (by decide) ?_
  refine zv_ist hB zd141_105 rfl rfl rfl ?_
  refine zv_ild hB zd141_107 rfl rfl ?_
  obtain ⟨r11, hr11, h⟩ := zi_bind h
  refine zv_cs hB (zv_emq (va2 := [.inl q10.1]) (F := []) (F' := []) (G := [q10.2.1, g1, q10.2.2]) (G' := [q10.2.1, g1, q10.2.2]) (ρ := []) (φ := []) (ψ := []) [] [none, none, none] zyw_Integer_bitCount zyw_Chooser_fewestNamed zye_Chooser_fewestNamed (by decide +kernel) (zt_Integer_bitCount hr11) trivial trivial rfl rfl rfl rfl rfl rfl rfl) zd141_108 zxt102 rfl (by decide) (by decide) rfl ?_
  refine zv_ild hB zd141_111 rfl rfl ?_
  refine zv_ceq hB zd141_113 rfl (fun hc12 => ?_) (fun hc12 => ?_)
  · rw [if_pos hc12] at h
    refine zv_con hB zd141_118 rfl ?_
    refine zv_ist hB zd141_119 rfl rfl rfl ?_
    obtain ⟨q16, hq16, h⟩ := zi_bind h
    refine zv_wk hB (L' := [.inr 0, .inr 1000, .inl r1, .inl q10.1, .inr 1000, .inl 1, .inr 1000]) (F' := []) ⟨fun _ => rfl, fun (h : zv_is (.inr 1000)) => (Nat.lt_irrefl 1000 h).elim, fun _ => rfl, fun _ => rfl, fun (h : zv_is (.inr 1000)) => (Nat.lt_irrefl 1000 h).elim, fun _ => rfl, fun (h : zv_is (.inr 1000)) => (Nat.lt_irrefl 1000 h).elim, trivial⟩ trivial ?_
    refine l2 _ _ _ _ _ _ q16 hq16 ?_
    rcases q16 with e17 | w18
    · replace h := zi_sl h
      show good 153 [.inr 1000, .inr 1000, .inr 1000, .inr 1000, .inr 1000, .inr 1000, .inr 1000] [] [] [q10.2.1, g1, q10.2.2]
      refine zv_con hB zd141_153 rfl ?_
      have hw := Option.some.inj h
      subst hw
      exact hret _ _ _ _ _ zd141_154 (by trivial) ⟨rfl, rfl, rfl⟩
    · exact Option.some.inj h
  · rw [if_neg hc12] at h
    refine zv_con hB zd141_116 rfl ?_
    have hw := Option.some.inj h
    subst hw
    exact hret _ _ _ _ _ zd141_117 (by trivial) ⟨rfl, rfl, rfl⟩
end
section
/-! Methods as functions, and that they do what these do. -/
/-! X_named (II)I -/
-- names: 0 StarTales('arg', 0), 1 Tape(0, 0, 6), 2 View(0, 0, 12), 3 Sky(0, 0, 0), 4 Law(0, 0, 7), 5 (0, 24)(2, 7, 8), 6 (0, 220)(1, 3, 0), 7 (0, 13)(4, 4, 12), 8 (0, 24)(3, 1, 1), 9 (0, 24)(3, 1, 2), 10 (0, 24)(3, 1, 3), 11 (0, 14)(4, 4, 3), 12 (0, 14)(4, 4, 5), 13 (0, 14)(4, 4, 6), 14 (0, 200)(4, 4, 0), 15 (0, 40)(4, 4, 13), 16 (0, 200)(4, 4, 1), 17 Chooser(0, 0, 17), 18 (0, 8)(17, 11, 0), 19 (0, 24)(17, 11, 1), 20 (0, 24)(17, 11, 2)
-- fields: f0 = 1.size_, f1 = 0.ruling_, f2 = 2.sky_, f3 = 2.law_, f4 = 2.starsAsked_, f5 = 2.x_, f6 = 2.y_, f7 = 3.hour_, f8 = 3.night_, f9 = 2.shown_, f10 = 3.told_, f11 = 3.sightColumns_, f12 = 3.sightRows_, f13 = 3.clouds_, f14 = 4.tellsSeen_, f15 = 2.starsHold_, f16 = 4.clauses_, f17 = 4.answer_, f18 = 4.seenByPlace_; arrays: g0 = 5, g1 = 6, g2 = 7, g3 = 8, g4 = 9, g5 = 10, g6 = 11, g7 = 12, g8 = 13, g9 = 14, g10 = 15, g11 = 16, g12 = 18, g13 = 19, g14 = 20; out: [('ret', None), ('f', 0), ('f', 4), ('f', 5), ('f', 6), ('f', 9), ('f', 15), ('f', 17), ('g', 0), ('g', 2), ('g', 10), ('g', 12), ('g', 13), ('g', 14)]
abbrev zy_X_named : zNL := (21, [(0, 0), (1, 3), (2, 7), (3, 1), (4, 4), (17, 11)], [(1, 3, 1, 0), (0, 0, 7, 1), (2, 7, 0, 2), (2, 7, 1, 3), (2, 7, 6, 4), (2, 7, 2, 5), (2, 7, 3, 6), (3, 1, 6, 7), (3, 1, 7, 8), (2, 7, 4, 9), (3, 1, 0, 10), (3, 1, 9, 11), (3, 1, 10, 12), (3, 1, 8, 13), (4, 4, 8, 14), (2, 7, 7, 15), (4, 4, 7, 16), (4, 4, 14, 17), (4, 4, 10, 18)], [(0, 0, 6, 1), (0, 0, 12, 2), (0, 0, 0, 3), (2, 7, 8, 5), (1, 3, 0, 6), (4, 4, 12, 7), (3, 1, 1, 8), (3, 1, 2, 9), (3, 1, 3, 10), (4, 4, 3, 11), (4, 4, 5, 12), (4, 4, 6, 13), (4, 4, 0, 14), (4, 4, 13, 15), (4, 4, 1, 16), (0, 0, 17, 17), (17, 11, 0, 18), (17, 11, 1, 19), (17, 11, 2, 20)], [(5, 0, 24, 0), (6, 0, 220, 1), (7, 0, 13, 2), (8, 0, 24, 3), (9, 0, 24, 4), (10, 0, 24, 5), (11, 0, 14, 6), (12, 0, 14, 7), (13, 0, 14, 8), (14, 0, 200, 9), (15, 0, 40, 10), (16, 0, 200, 11), (18, 0, 8, 12), (19, 0, 24, 13), (20, 0, 24, 14)])
theorem zyw_X_named : zv_wf zy_X_named = true := by decide +kernel
theorem zye_X_named : zv_ek2 zy_X_named = true := by decide +kernel
def zf_X_named_l0_b (x1 : Int) (f0 : Int) (f7 : Int) (f8 : Int) (f10 : Int) (f11 : Int) (f12 : Int) (f13 : Int) (f14 : Int) (f16 : Int) (f18 : Int) (g0 : (Int → Int)) (g1 : (Int → Int)) (g3 : (Int → Int)) (g4 : (Int → Int)) (g5 : (Int → Int)) (g6 : (Int → Int)) (g7 : (Int → Int)) (g8 : (Int → Int)) (g9 : (Int → Int)) (g11 : (Int → Int)) (g13 : (Int → Int)) (g14 : (Int → Int)) (rec : Int → Int → Int → Int → Int → Int → Int → (Int → Int) → (Int → Int) → (Int → Int) → Option (((Int × Int × Int × Int × Int × Int × (Int → Int) × (Int → Int) × (Int → Int)) ⊕ (Int × Int × Int × Int × Int × Int × Int × Int × (Int → Int) × (Int → Int) × (Int → Int) × (Int → Int) × (Int → Int) × (Int → Int))))) (x3 : Int) (f4 : Int) (f5 : Int) (f6 : Int) (f9 : Int) (f15 : Int) (f17 : Int) (g2 : (Int → Int)) (g10 : (Int → Int)) (g12 : (Int → Int)) : Option (((Int × Int × Int × Int × Int × Int × (Int → Int) × (Int → Int) × (Int → Int)) ⊕ (Int × Int × Int × Int × Int × Int × Int × Int × (Int → Int) × (Int → Int) × (Int → Int) × (Int → Int) × (Int → Int) × (Int → Int)))) := if x3 < x1 then ((zf_Tape_byteAt (zi_w (2 * x3)) g1).bind fun r9 => ((zf_Tape_byteAt (zi_w ((zi_w (2 * x3)) + 1)) g1).bind fun r10 => ((zf_X_isPlace r9 r10).bind fun r11 => (if r11 = 0 then (some (.inr ((-2), f0, f4, f5, f6, f9, f15, f17, g0, g2, g10, g12, g13, g14))) else ((zf_View_look r9 r10 f5 f6 f7 f8 f9 f10 f11 f12 f13 f14 f4 f15 f16 f17 f18 g2 g3 g4 g5 g6 g7 g8 g9 g10 g11).bind fun r13 => (cond (zi_ix x3 8) (rec (zi_w (x3 + 1)) r13.2.2.2.1 r13.1 r13.2.1 r13.2.2.1 r13.2.2.2.2.1 r13.2.2.2.2.2.1 r13.2.2.2.2.2.2.1 r13.2.2.2.2.2.2.2 (zv_up g12 x3 r13.2.2.1)) none)))))) else (some (.inl (f4, f5, f6, f9, f15, f17, g2, g10, g12)))
def zf_X_named_l0 (x1 : Int) (f0 : Int) (f7 : Int) (f8 : Int) (f10 : Int) (f11 : Int) (f12 : Int) (f13 : Int) (f14 : Int) (f16 : Int) (f18 : Int) (g0 : (Int → Int)) (g1 : (Int → Int)) (g3 : (Int → Int)) (g4 : (Int → Int)) (g5 : (Int → Int)) (g6 : (Int → Int)) (g7 : (Int → Int)) (g8 : (Int → Int)) (g9 : (Int → Int)) (g11 : (Int → Int)) (g13 : (Int → Int)) (g14 : (Int → Int)) : Nat → Int → Int → Int → Int → Int → Int → Int → (Int → Int) → (Int → Int) → (Int → Int) → Option (((Int × Int × Int × Int × Int × Int × (Int → Int) × (Int → Int) × (Int → Int)) ⊕ (Int × Int × Int × Int × Int × Int × Int × Int × (Int → Int) × (Int → Int) × (Int → Int) × (Int → Int) × (Int → Int) × (Int → Int))))
  | 0, _, _, _, _, _, _, _, _, _, _ => none
  | n + 1, x3, f4, f5, f6, f9, f15, f17, g2, g10, g12 => zf_X_named_l0_b x1 f0 f7 f8 f10 f11 f12 f13 f14 f16 f18 g0 g1 g3 g4 g5 g6 g7 g8 g9 g11 g13 g14 (zf_X_named_l0 x1 f0 f7 f8 f10 f11 f12 f13 f14 f16 f18 g0 g1 g3 g4 g5 g6 g7 g8 g9 g11 g13 g14 n) x3 f4 f5 f6 f9 f15 f17 g2 g10 g12
def zf_X_named (x1 : Int) (x2 : Int) (f0 : Int) (f4 : Int) (f5 : Int) (f6 : Int) (f7 : Int) (f8 : Int) (f9 : Int) (f10 : Int) (f11 : Int) (f12 : Int) (f13 : Int) (f14 : Int) (f15 : Int) (f16 : Int) (f17 : Int) (f18 : Int) (g0 : (Int → Int)) (g1 : (Int → Int)) (g2 : (Int → Int)) (g3 : (Int → Int)) (g4 : (Int → Int)) (g5 : (Int → Int)) (g6 : (Int → Int)) (g7 : (Int → Int)) (g8 : (Int → Int)) (g9 : (Int → Int)) (g10 : (Int → Int)) (g11 : (Int → Int)) (g12 : (Int → Int)) (g13 : (Int → Int)) (g14 : (Int → Int)) : Option (Int × Int × Int × Int × Int × Int × Int × Int × (Int → Int) × (Int → Int) × (Int → Int) × (Int → Int) × (Int → Int) × (Int → Int)) := (zf_X_isWithin x1 2 8).bind fun r1 => (if r1 = 0 then (some ((-1), f0, f4, f5, f6, f9, f15, f17, g0, g2, g10, g12, g13, g14)) else ((zf_X_isWithin x2 0 1).bind fun r3 => (if r3 = 0 then (some ((-1), f0, f4, f5, f6, f9, f15, f17, g0, g2, g10, g12, g13, g14)) else ((zf_Tape_take (zi_w (2 * x1)) f0).bind fun r5 => (if r5.1 = 0 then (some ((-1), r5.2, f4, f5, f6, f9, f15, f17, g0, g2, g10, g12, g13, g14)) else ((zf_View_open f4 g0).bind fun r7 => ((zf_X_named_l0 x1 r5.2 f7 f8 f10 f11 f12 f13 f14 f16 f18 r7.2 g1 g3 g4 g5 g6 g7 g8 g9 g11 g13 g14 zi_fu 0 r7.1 f5 f6 f9 f15 f17 g2 g10 g12).bind fun q15 => Sum.elim (fun e16 => ((zf_Chooser_fewestNamed x1 g13 e16.2.2.2.2.2.2.2.2 g14).bind fun r17 => (if r17.1 = (-1) then (some ((-2), r5.2, e16.1, e16.2.1, e16.2.2.1, e16.2.2.2.1, e16.2.2.2.2.1, e16.2.2.2.2.2.1, r7.2, e16.2.2.2.2.2.2.1, e16.2.2.2.2.2.2.2.1, e16.2.2.2.2.2.2.2.2, r17.2.1, r17.2.2)) else (if x2 = 0 then ((zf_Integer_bitCount r17.1).bind fun r20 => (some (r20, r5.2, e16.1, e16.2.1, e16.2.2.1, e16.2.2.2.1, e16.2.2.2.2.1, e16.2.2.2.2.2.1, r7.2, e16.2.2.2.2.2.2.1, e16.2.2.2.2.2.2.2.1, e16.2.2.2.2.2.2.2.2, r17.2.1, r17.2.2))) else (some (r17.1, r5.2, e16.1, e16.2.1, e16.2.2.1, e16.2.2.2.1, e16.2.2.2.2.1, e16.2.2.2.2.2.1, r7.2, e16.2.2.2.2.2.2.1, e16.2.2.2.2.2.2.2.1, e16.2.2.2.2.2.2.2.2, r17.2.1, r17.2.2)))))) (fun w21 => some w21) q15)))))))
theorem zd140_0 : decode zxm140.2.1 0 = .ok (.iload_n 1, 1) := by decide +kernel
theorem zd140_1 : decode zxm140.2.1 1 = .ok (.iconst 2, 1) := by decide +kernel
theorem zd140_2 : decode zxm140.2.1 2 = .ok (.bipush 8, 2) := by decide +kernel
theorem zd140_4 : decode zxm140.2.1 4 = .ok (.invokestatic 126, 3) := by decide +kernel
theorem zd140_7 : decode zxm140.2.1 7 = .ok (.ifCond .eq 25, 3) := by decide +kernel
theorem zd140_10 : decode zxm140.2.1 10 = .ok (.iload_n 2, 1) := by decide +kernel
theorem zd140_11 : decode zxm140.2.1 11 = .ok (.iconst 0, 1) := by decide +kernel
theorem zd140_12 : decode zxm140.2.1 12 = .ok (.iconst 1, 1) := by decide +kernel
theorem zd140_13 : decode zxm140.2.1 13 = .ok (.invokestatic 126, 3) := by decide +kernel
theorem zd140_16 : decode zxm140.2.1 16 = .ok (.ifCond .eq 16, 3) := by decide +kernel
theorem zd140_19 : decode zxm140.2.1 19 = .ok (.aload_n 0, 1) := by decide +kernel
theorem zd140_20 : decode zxm140.2.1 20 = .ok (.getfield 39, 3) := by decide +kernel
theorem zd140_23 : decode zxm140.2.1 23 = .ok (.iconst 2, 1) := by decide +kernel
theorem zd140_24 : decode zxm140.2.1 24 = .ok (.iload_n 1, 1) := by decide +kernel
theorem zd140_25 : decode zxm140.2.1 25 = .ok (.imul, 1) := by decide +kernel
theorem zd140_26 : decode zxm140.2.1 26 = .ok (.invokevirtual 197, 3) := by decide +kernel
theorem zd140_29 : decode zxm140.2.1 29 = .ok (.ifCond .ne 5, 3) := by decide +kernel
theorem zd140_32 : decode zxm140.2.1 32 = .ok (.iconst (-1), 1) := by decide +kernel
theorem zd140_33 : decode zxm140.2.1 33 = .ok (.ireturn, 1) := by decide +kernel
theorem zd140_34 : decode zxm140.2.1 34 = .ok (.aload_n 0, 1) := by decide +kernel
theorem zd140_35 : decode zxm140.2.1 35 = .ok (.getfield 81, 3) := by decide +kernel
theorem zd140_38 : decode zxm140.2.1 38 = .ok (.aload_n 0, 1) := by decide +kernel
theorem zd140_39 : decode zxm140.2.1 39 = .ok (.getfield 10, 3) := by decide +kernel
theorem zd140_42 : decode zxm140.2.1 42 = .ok (.aload_n 0, 1) := by decide +kernel
theorem zd140_43 : decode zxm140.2.1 43 = .ok (.getfield 46, 3) := by decide +kernel
theorem zd140_46 : decode zxm140.2.1 46 = .ok (.invokevirtual 211, 3) := by decide +kernel
theorem zd140_49 : decode zxm140.2.1 49 = .ok (.iconst 0, 1) := by decide +kernel
theorem zd140_50 : decode zxm140.2.1 50 = .ok (.istore_n 3, 1) := by decide +kernel
theorem zd140_51 : decode zxm140.2.1 51 = .ok (.iload_n 3, 1) := by decide +kernel
theorem zd140_52 : decode zxm140.2.1 52 = .ok (.iload_n 1, 1) := by decide +kernel
theorem zd140_53 : decode zxm140.2.1 53 = .ok (.if_icmp .ge 75, 3) := by decide +kernel
theorem zd140_56 : decode zxm140.2.1 56 = .ok (.aload_n 0, 1) := by decide +kernel
theorem zd140_57 : decode zxm140.2.1 57 = .ok (.getfield 39, 3) := by decide +kernel
theorem zd140_60 : decode zxm140.2.1 60 = .ok (.iconst 2, 1) := by decide +kernel
theorem zd140_61 : decode zxm140.2.1 61 = .ok (.iload_n 3, 1) := by decide +kernel
theorem zd140_62 : decode zxm140.2.1 62 = .ok (.imul, 1) := by decide +kernel
theorem zd140_63 : decode zxm140.2.1 63 = .ok (.invokevirtual 303, 3) := by decide +kernel
theorem zd140_66 : decode zxm140.2.1 66 = .ok (.istore 4, 2) := by decide +kernel
theorem zd140_68 : decode zxm140.2.1 68 = .ok (.aload_n 0, 1) := by decide +kernel
theorem zd140_69 : decode zxm140.2.1 69 = .ok (.getfield 39, 3) := by decide +kernel
theorem zd140_72 : decode zxm140.2.1 72 = .ok (.iconst 2, 1) := by decide +kernel
theorem zd140_73 : decode zxm140.2.1 73 = .ok (.iload_n 3, 1) := by decide +kernel
theorem zd140_74 : decode zxm140.2.1 74 = .ok (.imul, 1) := by decide +kernel
theorem zd140_75 : decode zxm140.2.1 75 = .ok (.iconst 1, 1) := by decide +kernel
theorem zd140_76 : decode zxm140.2.1 76 = .ok (.iadd, 1) := by decide +kernel
theorem zd140_77 : decode zxm140.2.1 77 = .ok (.invokevirtual 303, 3) := by decide +kernel
theorem zd140_80 : decode zxm140.2.1 80 = .ok (.istore 5, 2) := by decide +kernel
theorem zd140_82 : decode zxm140.2.1 82 = .ok (.iload 4, 2) := by decide +kernel
theorem zd140_84 : decode zxm140.2.1 84 = .ok (.iload 5, 2) := by decide +kernel
theorem zd140_86 : decode zxm140.2.1 86 = .ok (.invokestatic 130, 3) := by decide +kernel
theorem zd140_89 : decode zxm140.2.1 89 = .ok (.ifCond .ne 6, 3) := by decide +kernel
theorem zd140_92 : decode zxm140.2.1 92 = .ok (.bipush (-2), 2) := by decide +kernel
theorem zd140_94 : decode zxm140.2.1 94 = .ok (.ireturn, 1) := by decide +kernel
theorem zd140_95 : decode zxm140.2.1 95 = .ok (.aload_n 0, 1) := by decide +kernel
theorem zd140_96 : decode zxm140.2.1 96 = .ok (.getfield 81, 3) := by decide +kernel
theorem zd140_99 : decode zxm140.2.1 99 = .ok (.iload 4, 2) := by decide +kernel
theorem zd140_101 : decode zxm140.2.1 101 = .ok (.iload 5, 2) := by decide +kernel
theorem zd140_103 : decode zxm140.2.1 103 = .ok (.invokevirtual 214, 3) := by decide +kernel
theorem zd140_106 : decode zxm140.2.1 106 = .ok (.aload_n 0, 1) := by decide +kernel
theorem zd140_107 : decode zxm140.2.1 107 = .ok (.getfield 119, 3) := by decide +kernel
theorem zd140_110 : decode zxm140.2.1 110 = .ok (.getfield 306, 3) := by decide +kernel
theorem zd140_113 : decode zxm140.2.1 113 = .ok (.iload_n 3, 1) := by decide +kernel
theorem zd140_114 : decode zxm140.2.1 114 = .ok (.aload_n 0, 1) := by decide +kernel
theorem zd140_115 : decode zxm140.2.1 115 = .ok (.getfield 81, 3) := by decide +kernel
theorem zd140_118 : decode zxm140.2.1 118 = .ok (.getfield 218, 3) := by decide +kernel
theorem zd140_121 : decode zxm140.2.1 121 = .ok (.iastore, 1) := by decide +kernel
theorem zd140_122 : decode zxm140.2.1 122 = .ok (.iinc 3 1, 3) := by decide +kernel
theorem zd140_125 : decode zxm140.2.1 125 = .ok (.goto (-74), 3) := by decide +kernel
theorem zd140_128 : decode zxm140.2.1 128 = .ok (.aload_n 0, 1) := by decide +kernel
theorem zd140_129 : decode zxm140.2.1 129 = .ok (.getfield 119, 3) := by decide +kernel
theorem zd140_132 : decode zxm140.2.1 132 = .ok (.iload_n 1, 1) := by decide +kernel
theorem zd140_133 : decode zxm140.2.1 133 = .ok (.invokevirtual 308, 3) := by decide +kernel
theorem zd140_136 : decode zxm140.2.1 136 = .ok (.istore_n 3, 1) := by decide +kernel
theorem zd140_137 : decode zxm140.2.1 137 = .ok (.iload_n 3, 1) := by decide +kernel
theorem zd140_138 : decode zxm140.2.1 138 = .ok (.iconst (-1), 1) := by decide +kernel
theorem zd140_139 : decode zxm140.2.1 139 = .ok (.if_icmp .ne 6, 3) := by decide +kernel
theorem zd140_142 : decode zxm140.2.1 142 = .ok (.bipush (-2), 2) := by decide +kernel
theorem zd140_144 : decode zxm140.2.1 144 = .ok (.ireturn, 1) := by decide +kernel
theorem zd140_145 : decode zxm140.2.1 145 = .ok (.iload_n 2, 1) := by decide +kernel
theorem zd140_146 : decode zxm140.2.1 146 = .ok (.ifCond .ne 10, 3) := by decide +kernel
theorem zd140_149 : decode zxm140.2.1 149 = .ok (.iload_n 3, 1) := by decide +kernel
theorem zd140_150 : decode zxm140.2.1 150 = .ok (.invokestatic 235, 3) := by decide +kernel
theorem zd140_153 : decode zxm140.2.1 153 = .ok (.goto 4, 3) := by decide +kernel
theorem zd140_156 : decode zxm140.2.1 156 = .ok (.iload_n 3, 1) := by decide +kernel
theorem zd140_157 : decode zxm140.2.1 157 = .ok (.ireturn, 1) := by decide +kernel
theorem zt_X_named {x1 : Int} {x2 : Int} {f0 : Int} {f4 : Int} {f5 : Int} {f6 : Int} {f7 : Int} {f8 : Int} {f9 : Int} {f10 : Int} {f11 : Int} {f12 : Int} {f13 : Int} {f14 : Int} {f15 : Int} {f16 : Int} {f17 : Int} {f18 : Int} {g0 : (Int → Int)} {g1 : (Int → Int)} {g2 : (Int → Int)} {g3 : (Int → Int)} {g4 : (Int → Int)} {g5 : (Int → Int)} {g6 : (Int → Int)} {g7 : (Int → Int)} {g8 : (Int → Int)} {g9 : (Int → Int)} {g10 : (Int → Int)} {g11 : (Int → Int)} {g12 : (Int → Int)} {g13 : (Int → Int)} {g14 : (Int → Int)} {o : Int × Int × Int × Int × Int × Int × Int × Int × (Int → Int) × (Int → Int) × (Int → Int) × (Int → Int) × (Int → Int) × (Int → Int)} (h : zf_X_named x1 x2 f0 f4 f5 f6 f7 f8 f9 f10 f11 f12 f13 f14 f15 f16 f17 f18 g0 g1 g2 g3 g4 g5 g6 g7 g8 g9 g10 g11 g12 g13 g14 = some o) : zv_Fn z_TB z_cl z_KX zy_X_named zxm140 (11, 660) [.inr 0, .inl x1, .inl x2] [.inl f0, .inr 4, .inr 1000, .inr 1000, .inl f4, .inl f5, .inl f6, .inl f7, .inl f8, .inl f9, .inl f10, .inl f11, .inl f12, .inl f13, .inl f14, .inl f15, .inl f16, .inl f17, .inl f18] [g0, g1, g2, g3, g4, g5, g6, g7, g8, g9, g10, g11, g12, g13, g14] (some o.1) [.inl o.2.1, .inr 4, .inr 1000, .inr 1000, .inl o.2.2.1, .inl o.2.2.2.1, .inl o.2.2.2.2.1, .inl f7, .inl f8, .inl o.2.2.2.2.2.1, .inl f10, .inl f11, .inl f12, .inl f13, .inl f14, .inl o.2.2.2.2.2.2.1, .inl f16, .inl o.2.2.2.2.2.2.2.1, .inl f18] [o.2.2.2.2.2.2.2.2.1, g1, o.2.2.2.2.2.2.2.2.2.1, g3, g4, g5, g6, g7, g8, g9, o.2.2.2.2.2.2.2.2.2.2.1, g11, o.2.2.2.2.2.2.2.2.2.2.2.1, o.2.2.2.2.2.2.2.2.2.2.2.2.1, o.2.2.2.2.2.2.2.2.2.2.2.2.2] := zv_meth (K := (z_KF0, z_KC0, z_KL0, z_KT0, [], [], [], none)) (FT := z_FT) (MT := z_MT) (n := 3) zxp140 (z_ks0 _ (fun _ h => List.mem_cons_of_mem _ h) _ _ _ _ (fun j r h _ => by cases h)) (fun _ _ => zs_KX_p) zyw_X_named (fun va F G h => by obtain ⟨rfl, _⟩ := h; rfl) (fun va F G h => by obtain ⟨rfl, _⟩ := h; rfl) rfl fun good va F G hB hret hvret hP => by
  obtain ⟨rfl, rfl, rfl⟩ := hP
  have l0 : ∀ (n : Nat) (x1 : Int) (x2 : Int) (x3 : Int) (f0 : Int) (f4 : Int) (f5 : Int) (f6 : Int) (f9 : Int) (f15 : Int) (f17 : Int) (g0 : (Int → Int)) (g2 : (Int → Int)) (g10 : (Int → Int)) (g12 : (Int → Int)) (g13 : (Int → Int)) (g14 : (Int → Int)) (q : ((Int × Int × Int × Int × Int × Int × (Int → Int) × (Int → Int) × (Int → Int)) ⊕ (Int × Int × Int × Int × Int × Int × Int × Int × (Int → Int) × (Int → Int) × (Int → Int) × (Int → Int) × (Int → Int) × (Int → Int)))), zf_X_named_l0 x1 f0 f7 f8 f10 f11 f12 f13 f14 f16 f18 g0 g1 g3 g4 g5 g6 g7 g8 g9 g11 g13 g14 n x3 f4 f5 f6 f9 f15 f17 g2 g10 g12 = some q → (Sum.elim (fun e : Int × Int × Int × Int × Int × Int × (Int → Int) × (Int → Int) × (Int → Int) => good 128 [.inr 0, .inl x1, .inl x2, .inr 1000, .inr 1000, .inr 1000] [] [.inl f0, .inr 4, .inr 3, .inr 4, .inl e.1, .inl e.2.1, .inl e.2.2.1, .inl f7, .inl f8, .inl e.2.2.2.1, .inl f10, .inl f11, .inl f12, .inl f13, .inl f14, .inl e.2.2.2.2.1, .inl f16, .inl e.2.2.2.2.2.1, .inl f18] [g0, g1, e.2.2.2.2.2.2.1, g3, g4, g5, g6, g7, g8, g9, e.2.2.2.2.2.2.2.1, g11, e.2.2.2.2.2.2.2.2, g13, g14]) (fun w : Int × Int × Int × Int × Int × Int × Int × Int × (Int → Int) × (Int → Int) × (Int → Int) × (Int → Int) × (Int → Int) × (Int → Int) => w = o) q) → good 51 [.inr 0, .inl x1, .inl x2, .inl x3, .inr 1000, .inr 1000] [] [.inl f0, .inr 4, .inr 3, .inr 4, .inl f4, .inl f5, .inl f6, .inl f7, .inl f8, .inl f9, .inl f10, .inl f11, .inl f12, .inl f13, .inl f14, .inl f15, .inl f16, .inl f17, .inl f18] [g0, g1, g2, g3, g4, g5, g6, g7, g8, g9, g10, g11, g12, g13, g14] := by
    intro n
    induction n with
    | zero => intro x1 x2 x3 f0 f4 f5 f6 f9 f15 f17 g0 g2 g10 g12 g13 g14 q h; exact absurd (show none = some q from h) (fun h => by cases h)
    | succ n ih =>
      intro x1 x2 x3 f0 f4 f5 f6 f9 f15 f17 g0 g2 g10 g12 g13 g14 q h hK
      replace h : zf_X_named_l0_b x1 f0 f7 f8 f10 f11 f12 f13 f14 f16 f18 g0 g1 g3 g4 g5 g6 g7 g8 g9 g11 g13 g14 (zf_X_named_l0 x1 f0 f7 f8 f10 f11 f12 f13 f14 f16 f18 g0 g1 g3 g4 g5 g6 g7 g8 g9 g11 g13 g14 n) x3 f4 f5 f6 f9 f15 f17 g2 g10 g12 = some q := h
      unfold zf_X_named_l0_b at h
      refine zv_ild hB zd140_51 rfl rfl ?_
      refine zv_ild hB zd140_52 rfl rfl ?_
      refine zv_cge hB zd140_53 rfl (fun hc8 => ?_) (fun hc8 => ?_)
      · rw [if_neg (Int.not_lt.mpr hc8)] at h
        have hq := Option.some.inj h
        subst hq
        refine zv_wk hB (L' := [.inr 0, .inl x1, .inl x2, .inr 1000, .inr 1000, .inr 1000]) (F' := [.inl f0, .inr 4, .inr 3, .inr 4, .inl f4, .inl f5, .inl f6, .inl f7, .inl f8, .inl f9, .inl f10, .inl f11, .inl f12, .inl f13, .inl f14, .inl f15, .inl f16, .inl f17, .inl f18]) ⟨fun _ => rfl, fun _ => rfl, fun _ => rfl, fun (h : zv_is (.inr 1000)) => (Nat.lt_irrefl 1000 h).elim, fun (h : zv_is (.inr 1000)) => (Nat.lt_irrefl 1000 h).elim, fun (h : zv_is (.inr 1000)) => (Nat.lt_irrefl 1000 h).elim, trivial⟩ ⟨fun _ => rfl, fun _ => rfl, fun _ => rfl, fun _ => rfl, fun _ => rfl, fun _ => rfl, fun _ => rfl, fun _ => rfl, fun _ => rfl, fun _ => rfl, fun _ => rfl, fun _ => rfl, fun _ => rfl, fun _ => rfl, fun _ => rfl, fun _ => rfl, fun _ => rfl, fun _ => rfl, fun _ => rfl, trivial⟩ ?_
        exact hK
      · rw [if_pos hc8] at h
        refine zv_ald hB zd140_56 rfl rfl rfl ?_
        refine zv_getr hB zd140_57 rfl ?_
        refine zv_con hB zd140_60 rfl ?_
        refine zv_ild hB zd140_61 rfl rfl ?_
        refine zv_mulw hB zd140_62 ?_
        obtain ⟨r9, hr9, h⟩ := zi_bind h
        refine zv_cv hB (zv_emq (va2 := [.inr 1, .inl (zi_w (2 * x3))]) (F := [.inl f0, .inr 4, .inr 3, .inr 4, .inl f4, .inl f5, .inl f6, .inl f7, .inl f8, .inl f9, .inl f10, .inl f11, .inl f12, .inl f13, .inl f14, .inl f15, .inl f16, .inl f17, .inl f18]) (F' := [.inl f0, .inr 4, .inr 3, .inr 4, .inl f4, .inl f5, .inl f6, .inl f7, .inl f8, .inl f9, .inl f10, .inl f11, .inl f12, .inl f13, .inl f14, .inl f15, .inl f16, .inl f17, .inl f18]) (G := [g0, g1, g2, g3, g4, g5, g6, g7, g8, g9, g10, g11, g12, g13, g14]) (G' := [g0, g1, g2, g3, g4, g5, g6, g7, g8, g9, g10, g11, g12, g13, g14]) (ρ := [1, 6]) (φ := []) (ψ := [1]) [none, none, none, none, none, none, none, none, none, none, none, none, none, none, none, none, none, none, none] [none, some 0, none, none, none, none, none, none, none, none, none, none, none, none, none] zyw_Tape_byteAt zyw_X_named zye_X_named (by decide +kernel) (zt_Tape_byteAt hr9) trivial ⟨rfl, trivial⟩ rfl rfl rfl rfl rfl rfl rfl) zd140_63 zxt138 rfl (by decide) (by decide) rfl ?_
        refine zv_ist hB zd140_66 rfl rfl rfl ?_
        refine zv_ald hB zd140_68 rfl rfl rfl ?_
        refine zv_getr hB zd140_69 rfl ?_
        refine zv_con hB zd140_72 rfl ?_
        refine zv_ild hB zd140_73 rfl rfl ?_
        refine zv_mulw hB zd140_74 ?_
        refine zv_con hB zd140_75 rfl ?_
        refine zv_addw hB zd140_76 ?_
        obtain ⟨r10, hr10, h⟩ := zi_bind h
        refine zv_cv hB (zv_emq (va2 := [.inr 1, .inl (zi_w ((zi_w (2 * x3)) + 1))]) (F := [.inl f0, .inr 4, .inr 3, .inr 4, .inl f4, .inl f5, .inl f6, .inl f7, .inl f8, .inl f9, .inl f10, .inl f11, .inl f12, .inl f13, .inl f14, .inl f15, .inl f16, .inl f17, .inl f18]) (F' := [.inl f0, .inr 4, .inr 3, .inr 4, .inl f4, .inl f5, .inl f6, .inl f7, .inl f8, .inl f9, .inl f10, .inl f11, .inl f12, .inl f13, .inl f14, .inl f15, .inl f16, .inl f17, .inl f18]) (G := [g0, g1, g2, g3, g4, g5, g6, g7, g8, g9, g10, g11, g12, g13, g14]) (G' := [g0, g1, g2, g3, g4, g5, g6, g7, g8, g9, g10, g11, g12, g13, g14]) (ρ := [1, 6]) (φ := []) (ψ := [1]) [none, none, none, none, none, none, none, none, none, none, none, none, none, none, none, none, none, none, none] [none, some 0, none, none, none, none, none, none, none, none, none, none, none, none, none] zyw_Tape_byteAt zyw_X_named zye_X_named (by decide +kernel) (zt_Tape_byteAt hr10) trivial ⟨rfl, trivial⟩ rfl rfl rfl rfl rfl rfl rfl) zd140_77 zxt138 rfl (by decide) (by decide) rfl ?_
        refine zv_ist hB zd140_80 rfl rfl rfl ?_
        refine zv_ild hB zd140_82 rfl rfl ?_
        refine zv_ild hB zd140_84 rfl rfl ?_
        obtain ⟨r11, hr11, h⟩ := zi_bind h
        refine zv_cs hB (zv_emq (va2 := [.inl r9, .inl r10]) (F := [.inl f0, .inr 4, .inr 3, .inr 4, .inl f4, .inl f5, .inl f6, .inl f7, .inl f8, .inl f9, .inl f10, .inl f11, .inl f12, .inl f13, .inl f14, .inl f15, .inl f16, .inl f17, .inl f18]) (F' := [.inl f0, .inr 4, .inr 3, .inr 4, .inl f4, .inl f5, .inl f6, .inl f7, .inl f8, .inl f9, .inl f10, .inl f11, .inl f12, .inl f13, .inl f14, .inl f15, .inl f16, .inl f17, .inl f18]) (G := [g0, g1, g2, g3, g4, g5, g6, g7, g8, g9, g10, g11, g12, g13, g14]) (G' := [g0, g1, g2, g3, g4, g5, g6, g7, g8, g9, g10, g11, g12, g13, g14]) (ρ := []) (φ := []) (ψ := []) [none, none, none, none, none, none, none, none, none, none, none, none, none, none, none, none, none, none, none] [none, none, none, none, none, none, none, none, none, none, none, none, none, none, none] zyw_X_isPlace zyw_X_named zye_X_named (by decide +kernel) (zt_X_isPlace hr11) trivial trivial rfl rfl rfl rfl rfl rfl rfl) zd140_86 zxt16 rfl (by decide) (by decide) rfl ?_
        refine zv_zne hB zd140_89 rfl (fun hc12 => ?_) (fun hc12 => ?_)
        · rw [if_neg hc12] at h
          refine zv_ald hB zd140_95 rfl rfl rfl ?_
          refine zv_getr hB zd140_96 rfl ?_
          refine zv_ild hB zd140_99 rfl rfl ?_
          refine zv_ild hB zd140_101 rfl rfl ?_
          obtain ⟨r13, hr13, h⟩ := zi_bind h
          refine zv_cv hB (zv_emq (va2 := [.inr 2, .inl r9, .inl r10]) (F := [.inl f0, .inr 4, .inr 3, .inr 4, .inl f4, .inl f5, .inl f6, .inl f7, .inl f8, .inl f9, .inl f10, .inl f11, .inl f12, .inl f13, .inl f14, .inl f15, .inl f16, .inl f17, .inl f18]) (F' := [.inl f0, .inr 4, .inr 3, .inr 4, .inl r13.2.2.2.1, .inl r13.1, .inl r13.2.1, .inl f7, .inl f8, .inl r13.2.2.1, .inl f10, .inl f11, .inl f12, .inl f13, .inl f14, .inl r13.2.2.2.2.1, .inl f16, .inl r13.2.2.2.2.2.1, .inl f18]) (G := [g0, g1, g2, g3, g4, g5, g6, g7, g8, g9, g10, g11, g12, g13, g14]) (G' := [g0, g1, r13.2.2.2.2.2.2.1, g3, g4, g5, g6, g7, g8, g9, r13.2.2.2.2.2.2.2, g11, g12, g13, g14]) (ρ := [2, 4, 7, 3, 8, 9, 10, 11, 12, 13, 14, 15, 16]) (φ := [3, 2, 5, 6, 7, 8, 9, 10, 11, 12, 13, 14, 4, 15, 16, 17, 18]) (ψ := [2, 3, 4, 5, 6, 7, 8, 9, 10, 11]) [none, none, some 1, some 0, some 12, some 2, some 3, some 4, some 5, some 6, some 7, some 8, some 9, some 10, some 11, some 13, some 14, some 15, some 16] [none, none, some 0, some 1, some 2, some 3, some 4, some 5, some 6, some 7, some 8, some 9, none, none, none] zyw_View_look zyw_X_named zye_X_named (by decide +kernel) (zt_View_look hr13) ⟨⟨_, rfl, fun _ => rfl⟩, ⟨_, rfl, fun _ => rfl⟩, ⟨_, rfl, fun _ => rfl⟩, ⟨_, rfl, fun _ => rfl⟩, ⟨_, rfl, fun _ => rfl⟩, ⟨_, rfl, fun _ => rfl⟩, ⟨_, rfl, fun _ => rfl⟩, ⟨_, rfl, fun _ => rfl⟩, ⟨_, rfl, fun _ => rfl⟩, ⟨_, rfl, fun _ => rfl⟩, ⟨_, rfl, fun _ => rfl⟩, ⟨_, rfl, fun _ => rfl⟩, ⟨_, rfl, fun _ => rfl⟩, ⟨_, rfl, fun _ => rfl⟩, ⟨_, rfl, fun _ => rfl⟩, ⟨_, rfl, fun _ => rfl⟩, ⟨_, rfl, fun _ => rfl⟩, trivial⟩ ⟨rfl, rfl, rfl, rfl, rfl, rfl, rfl, rfl, rfl, rfl, trivial⟩ rfl rfl rfl rfl rfl rfl rfl) zd140_103 zxt85 rfl (by decide) (by decide) rfl ?_
          refine zv_ald hB zd140_106 rfl rfl rfl ?_
          refine zv_getr hB zd140_107 rfl ?_
          refine zv_getr hB zd140_110 rfl ?_
          refine zv_ild hB zd140_113 rfl rfl ?_
          refine zv_ald hB zd140_114 rfl rfl rfl ?_
          refine zv_getr hB zd140_115 rfl ?_
          refine zv_getf hB zd140_118 rfl rfl (fun _ _ => ?_)
          obtain ⟨c14, h⟩ := zi_if h
          refine zv_iast hB zd140_121 rfl rfl (zi_ix_ok c14).1 (zi_ix_ok c14).2 ?_
          refine zv_iincw hB zd140_122 rfl rfl ?_
          refine zv_goto hB zd140_125 rfl ?_
          refine zv_wk hB (L' := [.inr 0, .inl x1, .inl x2, .inl (zi_w (x3 + 1)), .inr 1000, .inr 1000]) (F' := [.inl f0, .inr 4, .inr 3, .inr 4, .inl r13.2.2.2.1, .inl r13.1, .inl r13.2.1, .inl f7, .inl f8, .inl r13.2.2.1, .inl f10, .inl f11, .inl f12, .inl f13, .inl f14, .inl r13.2.2.2.2.1, .inl f16, .inl r13.2.2.2.2.2.1, .inl f18]) ⟨fun _ => rfl, fun _ => rfl, fun _ => rfl, fun _ => rfl, fun (h : zv_is (.inr 1000)) => (Nat.lt_irrefl 1000 h).elim, fun (h : zv_is (.inr 1000)) => (Nat.lt_irrefl 1000 h).elim, trivial⟩ ⟨fun _ => rfl, fun _ => rfl, fun _ => rfl, fun _ => rfl, fun _ => rfl, fun _ => rfl, fun _ => rfl, fun _ => rfl, fun _ => rfl, fun _ => rfl, fun _ => rfl, fun _ => rfl, fun _ => rfl, fun _ => rfl, fun _ => rfl, fun _ => rfl, fun _ => rfl, fun _ => rfl, fun _ => rfl, trivial⟩ ?_
          exact ih _ _ _ _ _ _ _ _ _ _ _ _ _ _ _ _ q h hK
        · rw [if_pos hc12] at h
          refine zv_con hB zd140_92 rfl ?_
          have hw : ((-2), f0, f4, f5, f6, f9, f15, f17, g0, g2, g10, g12, g13, g14) = o := zi_rk (Option.some.inj h) hK
          refine zv_wk hB (L' := [.inr 0, .inl x1, .inl x2, .inl x3, .inl r9, .inl r10]) (F' := [.inl f0, .inr 4, .inr 1000, .inr 1000, .inl f4, .inl f5, .inl f6, .inl f7, .inl f8, .inl f9, .inl f10, .inl f11, .inl f12, .inl f13, .inl f14, .inl f15, .inl f16, .inl f17, .inl f18]) ⟨fun _ => rfl, fun _ => rfl, fun _ => rfl, fun _ => rfl, fun _ => rfl, fun _ => rfl, trivial⟩ ⟨fun _ => rfl, fun _ => rfl, fun (h : zv_is (.inr 1000)) => (Nat.lt_irrefl 1000 h).elim, fun (h : zv_is (.inr 1000)) => (Nat.lt_irrefl 1000 h).elim, fun _ => rfl, fun _ => rfl, fun _ => rfl, fun _ => rfl, fun _ => rfl, fun _ => rfl, fun _ => rfl, fun _ => rfl, fun _ => rfl, fun _ => rfl, fun _ => rfl, fun _ => rfl, fun _ => rfl, fun _ => rfl, fun _ => rfl, trivial⟩ ?_
          subst hw
          exact hret _ _ _ _ _ zd140_94 (by trivial) ⟨rfl, rfl, rfl⟩
  unfold zf_X_named at h
  refine zv_ild hB zd140_0 rfl rfl ?_
  refine zv_con hB zd140_1 rfl ?_
  refine zv_con hB zd140_2 rfl ?_
  obtain ⟨r1, hr1, h⟩ := zi_bind h
  refine zv_cs hB (zv_emq (va2 := [.inl x1, .inl 2, .inl 8]) (F := [.inl f0, .inr 4, .inr 1000, .inr 1000, .inl f4, .inl f5, .inl f6, .inl f7, .inl f8, .inl f9, .inl f10, .inl f11, .inl f12, .inl f13, .inl f14, .inl f15, .inl f16, .inl f17, .inl f18]) (F' := [.inl f0, .inr 4, .inr 1000, .inr 1000, .inl f4, .inl f5, .inl f6, .inl f7, .inl f8, .inl f9, .inl f10, .inl f11, .inl f12, .inl f13, .inl f14, .inl f15, .inl f16, .inl f17, .inl f18]) (G := [g0, g1, g2, g3, g4, g5, g6, g7, g8, g9, g10, g11, g12, g13, g14]) (G' := [g0, g1, g2, g3, g4, g5, g6, g7, g8, g9, g10, g11, g12, g13, g14]) (ρ := []) (φ := []) (ψ := []) [none, none, none, none, none, none, none, none, none, none, none, none, none, none, none, none, none, none, none] [none, none, none, none, none, none, none, none, none, none, none, none, none, none, none] zyw_X_isWithin zyw_X_named zye_X_named (by decide +kernel) (zt_X_isWithin hr1) trivial trivial rfl rfl rfl rfl rfl rfl rfl) zd140_4 zxt15 rfl (by decide) (by decide) rfl ?_
  refine zv_zeq hB zd140_7 rfl (fun hc2 => ?_) (fun hc2 => ?_)
  · rw [if_pos hc2] at h
    refine zv_con hB zd140_32 rfl ?_
    have hw := Option.some.inj h
    subst hw
    exact hret _ _ _ _ _ zd140_33 (by trivial) ⟨rfl, rfl, rfl⟩
  · rw [if_neg hc2] at h
    refine zv_ild hB zd140_10 rfl rfl ?_
    refine zv_con hB zd140_11 rfl ?_
    refine zv_con hB zd140_12 rfl ?_
    obtain ⟨r3, hr3, h⟩ := zi_bind h
    refine zv_cs hB (zv_emq (va2 := [.inl x2, .inl 0, .inl 1]) (F := [.inl f0, .inr 4, .inr 1000, .inr 1000, .inl f4, .inl f5, .inl f6, .inl f7, .inl f8, .inl f9, .inl f10, .inl f11, .inl f12, .inl f13, .inl f14, .inl f15, .inl f16, .inl f17, .inl f18]) (F' := [.inl f0, .inr 4, .inr 1000, .inr 1000, .inl f4, .inl f5, .inl f6, .inl f7, .inl f8, .inl f9, .inl f10, .inl f11, .inl f12, .inl f13, .inl f14, .inl f15, .inl f16, .inl f17, .inl f18]) (G := [g0, g1, g2, g3, g4, g5, g6, g7, g8, g9, g10, g11, g12, g13, g14]) (G' := [g0, g1, g2, g3, g4, g5, g6, g7, g8, g9, g10, g11, g12, g13, g14]) (ρ := []) (φ := []) (ψ := []) [none, none, none, none, none, none, none, none, none, none, none, none, none, none, none, none, none, none, none] [none, none, none, none, none, none, none, none, none, none, none, none, none, none, none] zyw_X_isWithin zyw_X_named zye_X_named (by decide +kernel) (zt_X_isWithin hr3) trivial trivial rfl rfl rfl rfl rfl rfl rfl) zd140_13 zxt15 rfl (by decide) (by decide) rfl ?_
    refine zv_zeq hB zd140_16 rfl (fun hc4 => ?_) (fun hc4 => ?_)
    · rw [if_pos hc4] at h
      refine zv_con hB zd140_32 rfl ?_
      have hw := Option.some.inj h
      subst hw
      exact hret _ _ _ _ _ zd140_33 (by trivial) ⟨rfl, rfl, rfl⟩
    · rw [if_neg hc4] at h
      refine zv_ald hB zd140_19 rfl rfl rfl ?_
      refine zv_getr hB zd140_20 rfl ?_
      refine zv_con hB zd140_23 rfl ?_
      refine zv_ild hB zd140_24 rfl rfl ?_
      refine zv_mulw hB zd140_25 ?_
      obtain ⟨r5, hr5, h⟩ := zi_bind h
      refine zv_cv hB (zv_emq (va2 := [.inr 1, .inl (zi_w (2 * x1))]) (F := [.inl f0, .inr 4, .inr 1000, .inr 1000, .inl f4, .inl f5, .inl f6, .inl f7, .inl f8, .inl f9, .inl f10, .inl f11, .inl f12, .inl f13, .inl f14, .inl f15, .inl f16, .inl f17, .inl f18]) (F' := [.inl r5.2, .inr 4, .inr 1000, .inr 1000, .inl f4, .inl f5, .inl f6, .inl f7, .inl f8, .inl f9, .inl f10, .inl f11, .inl f12, .inl f13, .inl f14, .inl f15, .inl f16, .inl f17, .inl f18]) (G := [g0, g1, g2, g3, g4, g5, g6, g7, g8, g9, g10, g11, g12, g13, g14]) (G' := [g0, g1, g2, g3, g4, g5, g6, g7, g8, g9, g10, g11, g12, g13, g14]) (ρ := [1]) (φ := [0]) (ψ := []) [some 0, none, none, none, none, none, none, none, none, none, none, none, none, none, none, none, none, none, none] [none, none, none, none, none, none, none, none, none, none, none, none, none, none, none] zyw_Tape_take zyw_X_named zye_X_named (by decide +kernel) (zt_Tape_take hr5) ⟨⟨_, rfl, fun _ => rfl⟩, trivial⟩ trivial rfl rfl rfl rfl rfl rfl rfl) zd140_26 zxt35 rfl (by decide) (by decide) rfl ?_
      refine zv_zne hB zd140_29 rfl (fun hc6 => ?_) (fun hc6 => ?_)
      · rw [if_neg hc6] at h
        refine zv_ald hB zd140_34 rfl rfl rfl ?_
        refine zv_getr hB zd140_35 rfl ?_
        refine zv_ald hB zd140_38 rfl rfl rfl ?_
        refine zv_getr hB zd140_39 rfl ?_
        refine zv_ald hB zd140_42 rfl rfl rfl ?_
        refine zv_getq hB zd140_43 rfl rfl rfl ?_
        obtain ⟨r7, hr7, h⟩ := zi_bind h
        refine zv_cv hB (zv_emq (va2 := [.inr 2, .inr 3, .inr 4]) (F := [.inl r5.2, .inr 4, .inr 1000, .inr 1000, .inl f4, .inl f5, .inl f6, .inl f7, .inl f8, .inl f9, .inl f10, .inl f11, .inl f12, .inl f13, .inl f14, .inl f15, .inl f16, .inl f17, .inl f18]) (F' := [.inl r5.2, .inr 4, .inr 3, .inr 4, .inl r7.1, .inl f5, .inl f6, .inl f7, .inl f8, .inl f9, .inl f10, .inl f11, .inl f12, .inl f13, .inl f14, .inl f15, .inl f16, .inl f17, .inl f18]) (G := [g0, g1, g2, g3, g4, g5, g6, g7, g8, g9, g10, g11, g12, g13, g14]) (G' := [r7.2, g1, g2, g3, g4, g5, g6, g7, g8, g9, g10, g11, g12, g13, g14]) (ρ := [2, 3, 4, 5]) (φ := [2, 3, 4]) (ψ := [0]) [none, none, some 0, some 1, some 2, none, none, none, none, none, none, none, none, none, none, none, none, none, none] [some 0, none, none, none, none, none, none, none, none, none, none, none, none, none, none] zyw_View_open zyw_X_named zye_X_named (by decide +kernel) (zt_View_open hr7) ⟨⟨_, rfl, fun (h : zv_is (.inr 1000)) => (Nat.lt_irrefl 1000 h).elim⟩, ⟨_, rfl, fun (h : zv_is (.inr 1000)) => (Nat.lt_irrefl 1000 h).elim⟩, ⟨_, rfl, fun _ => rfl⟩, trivial⟩ ⟨rfl, trivial⟩ rfl rfl rfl rfl rfl rfl rfl) zd140_46 zxt84 rfl (by decide) (by decide) rfl ?_
        refine zv_con hB zd140_49 rfl ?_
        refine zv_ist hB zd140_50 rfl rfl rfl ?_
        obtain ⟨q15, hq15, h⟩ := zi_bind h
        refine l0 _ _ _ _ _ _ _ _ _ _ _ _ _ _ _ _ _ q15 hq15 ?_
        rcases q15 with e16 | w21
        · replace h := zi_sl h
          show good 128 [.inr 0, .inl x1, .inl x2, .inr 1000, .inr 1000, .inr 1000] [] [.inl r5.2, .inr 4, .inr 3, .inr 4, .inl e16.1, .inl e16.2.1, .inl e16.2.2.1, .inl f7, .inl f8, .inl e16.2.2.2.1, .inl f10, .inl f11, .inl f12, .inl f13, .inl f14, .inl e16.2.2.2.2.1, .inl f16, .inl e16.2.2.2.2.2.1, .inl f18] [r7.2, g1, e16.2.2.2.2.2.2.1, g3, g4, g5, g6, g7, g8, g9, e16.2.2.2.2.2.2.2.1, g11, e16.2.2.2.2.2.2.2.2, g13, g14]
          refine zv_ald hB zd140_128 rfl rfl rfl ?_
          refine zv_getr hB zd140_129 rfl ?_
          refine zv_ild hB zd140_132 rfl rfl ?_
          obtain ⟨r17, hr17, h⟩ := zi_bind h
          refine zv_cv hB (zv_emq (va2 := [.inr 17, .inl x1]) (F := [.inl r5.2, .inr 4, .inr 3, .inr 4, .inl e16.1, .inl e16.2.1, .inl e16.2.2.1, .inl f7, .inl f8, .inl e16.2.2.2.1, .inl f10, .inl f11, .inl f12, .inl f13, .inl f14, .inl e16.2.2.2.2.1, .inl f16, .inl e16.2.2.2.2.2.1, .inl f18]) (F' := [.inl r5.2, .inr 4, .inr 3, .inr 4, .inl e16.1, .inl e16.2.1, .inl e16.2.2.1, .inl f7, .inl f8, .inl e16.2.2.2.1, .inl f10, .inl f11, .inl f12, .inl f13, .inl f14, .inl e16.2.2.2.2.1, .inl f16, .inl e16.2.2.2.2.2.1, .inl f18]) (G := [r7.2, g1, e16.2.2.2.2.2.2.1, g3, g4, g5, g6, g7, g8, g9, e16.2.2.2.2.2.2.2.1, g11, e16.2.2.2.2.2.2.2.2, g13, g14]) (G' := [r7.2, g1, e16.2.2.2.2.2.2.1, g3, g4, g5, g6, g7, g8, g9, e16.2.2.2.2.2.2.2.1, g11, e16.2.2.2.2.2.2.2.2, r17.2.1, r17.2.2]) (ρ := [17, 19, 18, 20]) (φ := []) (ψ := [13, 12, 14]) [none, none, none, none, none, none, none, none, none, none, none, none, none, none, none, none, none, none, none] [none, none, none, none, none, none, none, none, none, none, none, none, some 1, some 0, some 2] zyw_Chooser_fewestNamed zyw_X_named zye_X_named (by decide +kernel) (zt_Chooser_fewestNamed hr17) trivial ⟨rfl, rfl, rfl, trivial⟩ rfl rfl rfl rfl rfl rfl rfl) zd140_133 zxt141 rfl (by decide) (by decide) rfl ?_
          refine zv_ist hB zd140_136 rfl rfl rfl ?_
          refine zv_ild hB zd140_137 rfl rfl ?_
          refine zv_con hB zd140_138 rfl ?_
          refine zv_cne hB zd140_139 rfl (fun hc18 => ?_) (fun hc18 => ?_)
          · rw [if_neg hc18] at h
            refine zv_ild hB zd140_145 rfl rfl ?_
            refine zv_zne hB zd140_146 rfl (fun hc19 => ?_) (fun hc19 => ?_)
            · rw [if_neg hc19] at h
              refine zv_ild hB zd140_156 rfl rfl ?_
              have hw := Option.some.inj h
              refine zv_wk hB (L' := [.inr 0, .inl x1, .inl x2, .inl r17.1, .inr 1000, .inr 1000]) (F' := [.inl r5.2, .inr 4, .inr 1000, .inr 1000, .inl e16.1, .inl e16.2.1, .inl e16.2.2.1, .inl f7, .inl f8, .inl e16.2.2.2.1, .inl f10, .inl f11, .inl f12, .inl f13, .inl f14, .inl e16.2.2.2.2.1, .inl f16, .inl e16.2.2.2.2.2.1, .inl f18]) ⟨fun _ => rfl, fun _ => rfl, fun _ => rfl, fun _ => rfl, fun _ => rfl, fun _ => rfl, trivial⟩ ⟨fun _ => rfl, fun _ => rfl, fun (h : zv_is (.inr 1000)) => (Nat.lt_irrefl 1000 h).elim, fun (h : zv_is (.inr 1000)) => (Nat.lt_irrefl 1000 h).elim, fun _ => rfl, fun _ => rfl, fun _ => rfl, fun _ => rfl, fun _ => rfl, fun _ => rfl, fun _ => rfl, fun _ => rfl, fun _ => rfl, fun _ => rfl, fun _ => rfl, fun _ => rfl, fun _ => rfl, fun _ => rfl, fun _ => rfl, trivial⟩ ?_
              subst hw
              exact hret _ _ _ _ _ zd140_157 (by trivial) ⟨rfl, rfl, rfl⟩
            · rw [if_pos hc19] at h
              refine zv_ild hB zd140_149 rfl rfl ?_
              obtain ⟨r20, hr20, h⟩ := zi_bind h
              refine zv_cs hB (zv_emq (va2 := [.inl r17.1]) (F := [.inl r5.2, .inr 4, .inr 3, .inr 4, .inl e16.1, .inl e16.2.1, .inl e16.2.2.1, .inl f7, .inl f8, .inl e16.2.2.2.1, .inl f10, .inl f11, .inl f12, .inl f13, .inl f14, .inl e16.2.2.2.2.1, .inl f16, .inl e16.2.2.2.2.2.1, .inl f18]) (F' := [.inl r5.2, .inr 4, .inr 3, .inr 4, .inl e16.1, .inl e16.2.1, .inl e16.2.2.1, .inl f7, .inl f8, .inl e16.2.2.2.1, .inl f10, .inl f11, .inl f12, .inl f13, .inl f14, .inl e16.2.2.2.2.1, .inl f16, .inl e16.2.2.2.2.2.1, .inl f18]) (G := [r7.2, g1, e16.2.2.2.2.2.2.1, g3, g4, g5, g6, g7, g8, g9, e16.2.2.2.2.2.2.2.1, g11, e16.2.2.2.2.2.2.2.2, r17.2.1, r17.2.2]) (G' := [r7.2, g1, e16.2.2.2.2.2.2.1, g3, g4, g5, g6, g7, g8, g9, e16.2.2.2.2.2.2.2.1, g11, e16.2.2.2.2.2.2.2.2, r17.2.1, r17.2.2]) (ρ := []) (φ := []) (ψ := []) [none, none, none, none, none, none, none, none, none, none, none, none, none, none, none, none, none, none, none] [none, none, none, none, none, none, none, none, none, none, none, none, none, none, none] zyw_Integer_bitCount zyw_X_named zye_X_named (by decide +kernel) (zt_Integer_bitCount hr20) trivial trivial rfl rfl rfl rfl rfl rfl rfl) zd140_150 zxt102 rfl (by decide) (by decide) rfl ?_
              refine zv_goto hB zd140_153 rfl ?_
              have hw := Option.some.inj h
              refine zv_wk hB (L' := [.inr 0, .inl x1, .inl x2, .inl r17.1, .inr 1000, .inr 1000]) (F' := [.inl r5.2, .inr 4, .inr 1000, .inr 1000, .inl e16.1, .inl e16.2.1, .inl e16.2.2.1, .inl f7, .inl f8, .inl e16.2.2.2.1, .inl f10, .inl f11, .inl f12, .inl f13, .inl f14, .inl e16.2.2.2.2.1, .inl f16, .inl e16.2.2.2.2.2.1, .inl f18]) ⟨fun _ => rfl, fun _ => rfl, fun _ => rfl, fun _ => rfl, fun _ => rfl, fun _ => rfl, trivial⟩ ⟨fun _ => rfl, fun _ => rfl, fun (h : zv_is (.inr 1000)) => (Nat.lt_irrefl 1000 h).elim, fun (h : zv_is (.inr 1000)) => (Nat.lt_irrefl 1000 h).elim, fun _ => rfl, fun _ => rfl, fun _ => rfl, fun _ => rfl, fun _ => rfl, fun _ => rfl, fun _ => rfl, fun _ => rfl, fun _ => rfl, fun _ => rfl, fun _ => rfl, fun _ => rfl, fun _ => rfl, fun _ => rfl, fun _ => rfl, trivial⟩ ?_
              subst hw
              exact hret _ _ _ _ _ zd140_157 (by trivial) ⟨rfl, rfl, rfl⟩
          · rw [if_pos hc18] at h
            refine zv_con hB zd140_142 rfl ?_
            have hw := Option.some.inj h
            refine zv_wk hB (L' := [.inr 0, .inl x1, .inl x2, .inl r17.1, .inr 1000, .inr 1000]) (F' := [.inl r5.2, .inr 4, .inr 1000, .inr 1000, .inl e16.1, .inl e16.2.1, .inl e16.2.2.1, .inl f7, .inl f8, .inl e16.2.2.2.1, .inl f10, .inl f11, .inl f12, .inl f13, .inl f14, .inl e16.2.2.2.2.1, .inl f16, .inl e16.2.2.2.2.2.1, .inl f18]) ⟨fun _ => rfl, fun _ => rfl, fun _ => rfl, fun _ => rfl, fun _ => rfl, fun _ => rfl, trivial⟩ ⟨fun _ => rfl, fun _ => rfl, fun (h : zv_is (.inr 1000)) => (Nat.lt_irrefl 1000 h).elim, fun (h : zv_is (.inr 1000)) => (Nat.lt_irrefl 1000 h).elim, fun _ => rfl, fun _ => rfl, fun _ => rfl, fun _ => rfl, fun _ => rfl, fun _ => rfl, fun _ => rfl, fun _ => rfl, fun _ => rfl, fun _ => rfl, fun _ => rfl, fun _ => rfl, fun _ => rfl, fun _ => rfl, fun _ => rfl, trivial⟩ ?_
            subst hw
            exact hret _ _ _ _ _ zd140_144 (by trivial) ⟨rfl, rfl, rfl⟩
        · exact Option.some.inj h
      · rw [if_pos hc6] at h
        refine zv_con hB zd140_32 rfl ?_
        have hw := Option.some.inj h
        subst hw
        exact hret _ _ _ _ _ zd140_33 (by trivial) ⟨rfl, rfl, rfl⟩
/-! Law_amount (II)I -/
-- names: 0 Law('arg', 0), 1 (0, 14)(0, 4, 3), 2 (0, 14)(0, 4, 5), 3 (0, 14)(0, 4, 6), 4 (0, 200)(0, 4, 0), 5 (0, 40)(0, 4, 13), 6 (0, 200)(0, 4, 1), 7 (0, 13)(0, 4, 12), 8 (0, 14)(0, 4, 4)
-- fields: f0 = 0.clauses_, f1 = 0.answer_; arrays: g0 = 1, g1 = 2, g2 = 3, g3 = 4, g4 = 5, g5 = 6, g6 = 7, g7 = 8; out: [('ret', None), ('f', 1), ('g', 4)]
abbrev zy_Law_amount : zNL := (9, [(0, 4)], [(0, 4, 7, 0), (0, 4, 14, 1)], [(0, 4, 3, 1), (0, 4, 5, 2), (0, 4, 6, 3), (0, 4, 0, 4), (0, 4, 13, 5), (0, 4, 1, 6), (0, 4, 12, 7), (0, 4, 4, 8)], [(1, 0, 14, 0), (2, 0, 14, 1), (3, 0, 14, 2), (4, 0, 200, 3), (5, 0, 40, 4), (6, 0, 200, 5), (7, 0, 13, 6), (8, 0, 14, 7)])
theorem zyw_Law_amount : zv_wf zy_Law_amount = true := by decide +kernel
theorem zye_Law_amount : zv_ek2 zy_Law_amount = true := by decide +kernel
def zf_Law_amount_l0_b (x1 : Int) (x2 : Int) (f0 : Int) (g0 : (Int → Int)) (g1 : (Int → Int)) (g2 : (Int → Int)) (g3 : (Int → Int)) (g5 : (Int → Int)) (g6 : (Int → Int)) (g7 : (Int → Int)) (rec : Int → Int → (Int → Int) → Option (((Int × (Int → Int)) ⊕ (Int × Int × (Int → Int))))) (x3 : Int) (f1 : Int) (g4 : (Int → Int)) : Option (((Int × (Int → Int)) ⊕ (Int × Int × (Int → Int)))) := if x3 < f0 then (cond (zi_ix x3 14) (if (g0 x3) = x1 then ((zf_Law_run (g1 x3) (g2 x3) f1 g3 g4 g5 g6).bind fun r4 => (if r4.1 = 0 then (rec (zi_w (x3 + 1)) r4.2.1 r4.2.2) else (if r4.2.1 = 0 then (rec (zi_w (x3 + 1)) r4.2.1 r4.2.2) else ((zf_Law_run (g7 x3) (g1 x3) r4.2.1 g3 r4.2.2 g5 g6).bind fun r7 => (if r7.1 = 0 then (some (.inr (0, r7.2.1, r7.2.2))) else ((zf_Math_min x2 r7.2.1).bind fun r9 => ((zf_Math_max 0 r9).bind fun r10 => (some (.inr (r10, r7.2.1, r7.2.2)))))))))) else (rec (zi_w (x3 + 1)) f1 g4)) none) else (some (.inl (f1, g4)))
def zf_Law_amount_l0 (x1 : Int) (x2 : Int) (f0 : Int) (g0 : (Int → Int)) (g1 : (Int → Int)) (g2 : (Int → Int)) (g3 : (Int → Int)) (g5 : (Int → Int)) (g6 : (Int → Int)) (g7 : (Int → Int)) : Nat → Int → Int → (Int → Int) → Option (((Int × (Int → Int)) ⊕ (Int × Int × (Int → Int))))
  | 0, _, _, _ => none
  | n + 1, x3, f1, g4 => zf_Law_amount_l0_b x1 x2 f0 g0 g1 g2 g3 g5 g6 g7 (zf_Law_amount_l0 x1 x2 f0 g0 g1 g2 g3 g5 g6 g7 n) x3 f1 g4
def zf_Law_amount (x1 : Int) (x2 : Int) (f0 : Int) (f1 : Int) (g0 : (Int → Int)) (g1 : (Int → Int)) (g2 : (Int → Int)) (g3 : (Int → Int)) (g4 : (Int → Int)) (g5 : (Int → Int)) (g6 : (Int → Int)) (g7 : (Int → Int)) : Option (Int × Int × (Int → Int)) := (zf_Law_amount_l0 x1 x2 f0 g0 g1 g2 g3 g5 g6 g7 zi_fu 0 f1 g4).bind fun q11 => Sum.elim (fun e12 => (some (0, e12.1, e12.2))) (fun w13 => some w13) q11
theorem zd146_0 : decode zxm146.2.1 0 = .ok (.iconst 0, 1) := by decide +kernel
theorem zd146_1 : decode zxm146.2.1 1 = .ok (.istore_n 3, 1) := by decide +kernel
theorem zd146_2 : decode zxm146.2.1 2 = .ok (.iload_n 3, 1) := by decide +kernel
theorem zd146_3 : decode zxm146.2.1 3 = .ok (.aload_n 0, 1) := by decide +kernel
theorem zd146_4 : decode zxm146.2.1 4 = .ok (.getfield 32, 3) := by decide +kernel
theorem zd146_7 : decode zxm146.2.1 7 = .ok (.if_icmp .ge 81, 3) := by decide +kernel
theorem zd146_10 : decode zxm146.2.1 10 = .ok (.aload_n 0, 1) := by decide +kernel
theorem zd146_11 : decode zxm146.2.1 11 = .ok (.getfield 20, 3) := by decide +kernel
theorem zd146_14 : decode zxm146.2.1 14 = .ok (.iload_n 3, 1) := by decide +kernel
theorem zd146_15 : decode zxm146.2.1 15 = .ok (.iaload, 1) := by decide +kernel
theorem zd146_16 : decode zxm146.2.1 16 = .ok (.iload_n 1, 1) := by decide +kernel
theorem zd146_17 : decode zxm146.2.1 17 = .ok (.if_icmp .ne 65, 3) := by decide +kernel
theorem zd146_20 : decode zxm146.2.1 20 = .ok (.aload_n 0, 1) := by decide +kernel
theorem zd146_21 : decode zxm146.2.1 21 = .ok (.aload_n 0, 1) := by decide +kernel
theorem zd146_22 : decode zxm146.2.1 22 = .ok (.getfield 26, 3) := by decide +kernel
theorem zd146_25 : decode zxm146.2.1 25 = .ok (.iload_n 3, 1) := by decide +kernel
theorem zd146_26 : decode zxm146.2.1 26 = .ok (.iaload, 1) := by decide +kernel
theorem zd146_27 : decode zxm146.2.1 27 = .ok (.aload_n 0, 1) := by decide +kernel
theorem zd146_28 : decode zxm146.2.1 28 = .ok (.getfield 29, 3) := by decide +kernel
theorem zd146_31 : decode zxm146.2.1 31 = .ok (.iload_n 3, 1) := by decide +kernel
theorem zd146_32 : decode zxm146.2.1 32 = .ok (.iaload, 1) := by decide +kernel
theorem zd146_33 : decode zxm146.2.1 33 = .ok (.invokevirtual 93, 3) := by decide +kernel
theorem zd146_36 : decode zxm146.2.1 36 = .ok (.ifCond .eq 46, 3) := by decide +kernel
theorem zd146_39 : decode zxm146.2.1 39 = .ok (.aload_n 0, 1) := by decide +kernel
theorem zd146_40 : decode zxm146.2.1 40 = .ok (.getfield 62, 3) := by decide +kernel
theorem zd146_43 : decode zxm146.2.1 43 = .ok (.ifCond .eq 39, 3) := by decide +kernel
theorem zd146_46 : decode zxm146.2.1 46 = .ok (.aload_n 0, 1) := by decide +kernel
theorem zd146_47 : decode zxm146.2.1 47 = .ok (.aload_n 0, 1) := by decide +kernel
theorem zd146_48 : decode zxm146.2.1 48 = .ok (.getfield 23, 3) := by decide +kernel
theorem zd146_51 : decode zxm146.2.1 51 = .ok (.iload_n 3, 1) := by decide +kernel
theorem zd146_52 : decode zxm146.2.1 52 = .ok (.iaload, 1) := by decide +kernel
theorem zd146_53 : decode zxm146.2.1 53 = .ok (.aload_n 0, 1) := by decide +kernel
theorem zd146_54 : decode zxm146.2.1 54 = .ok (.getfield 26, 3) := by decide +kernel
theorem zd146_57 : decode zxm146.2.1 57 = .ok (.iload_n 3, 1) := by decide +kernel
theorem zd146_58 : decode zxm146.2.1 58 = .ok (.iaload, 1) := by decide +kernel
theorem zd146_59 : decode zxm146.2.1 59 = .ok (.invokevirtual 93, 3) := by decide +kernel
theorem zd146_62 : decode zxm146.2.1 62 = .ok (.ifCond .eq 18, 3) := by decide +kernel
theorem zd146_65 : decode zxm146.2.1 65 = .ok (.iconst 0, 1) := by decide +kernel
theorem zd146_66 : decode zxm146.2.1 66 = .ok (.iload_n 2, 1) := by decide +kernel
theorem zd146_67 : decode zxm146.2.1 67 = .ok (.aload_n 0, 1) := by decide +kernel
theorem zd146_68 : decode zxm146.2.1 68 = .ok (.getfield 62, 3) := by decide +kernel
theorem zd146_71 : decode zxm146.2.1 71 = .ok (.invokestatic 96, 3) := by decide +kernel
theorem zd146_74 : decode zxm146.2.1 74 = .ok (.invokestatic 102, 3) := by decide +kernel
theorem zd146_77 : decode zxm146.2.1 77 = .ok (.goto 4, 3) := by decide +kernel
theorem zd146_80 : decode zxm146.2.1 80 = .ok (.iconst 0, 1) := by decide +kernel
theorem zd146_81 : decode zxm146.2.1 81 = .ok (.ireturn, 1) := by decide +kernel
theorem zd146_82 : decode zxm146.2.1 82 = .ok (.iinc 3 1, 3) := by decide +kernel
theorem zd146_85 : decode zxm146.2.1 85 = .ok (.goto (-83), 3) := by decide +kernel
theorem zd146_88 : decode zxm146.2.1 88 = .ok (.iconst 0, 1) := by decide +kernel
theorem zd146_89 : decode zxm146.2.1 89 = .ok (.ireturn, 1) := by decide +kernel
theorem zt_Law_amount {x1 : Int} {x2 : Int} {f0 : Int} {f1 : Int} {g0 : (Int → Int)} {g1 : (Int → Int)} {g2 : (Int → Int)} {g3 : (Int → Int)} {g4 : (Int → Int)} {g5 : (Int → Int)} {g6 : (Int → Int)} {g7 : (Int → Int)} {o : Int × Int × (Int → Int)} (h : zf_Law_amount x1 x2 f0 f1 g0 g1 g2 g3 g4 g5 g6 g7 = some o) : zv_Fn z_TB z_cl z_KX zy_Law_amount zxm146 (2, 120) [.inr 0, .inl x1, .inl x2] [.inl f0, .inl f1] [g0, g1, g2, g3, g4, g5, g6, g7] (some o.1) [.inl f0, .inl o.2.1] [g0, g1, g2, g3, o.2.2, g5, g6, g7] := zv_meth (K := (z_KF2, z_KC2, z_KL2, z_KT2, [], [], [], none)) (FT := z_FT) (MT := z_MT) (n := 3) zxp146 (z_ks2 _ (fun _ h => List.mem_cons_of_mem _ h) _ _ _ _ (fun j r h _ => by cases h)) (fun _ _ => zs_KX_p) zyw_Law_amount (fun va F G h => by obtain ⟨rfl, _⟩ := h; rfl) (fun va F G h => by obtain ⟨rfl, _⟩ := h; rfl) rfl fun good va F G hB hret hvret hP => by
  obtain ⟨rfl, rfl, rfl⟩ := hP
  have l0 : ∀ (n : Nat) (x1 : Int) (x2 : Int) (x3 : Int) (f1 : Int) (g4 : (Int → Int)) (q : ((Int × (Int → Int)) ⊕ (Int × Int × (Int → Int)))), zf_Law_amount_l0 x1 x2 f0 g0 g1 g2 g3 g5 g6 g7 n x3 f1 g4 = some q → (Sum.elim (fun e : Int × (Int → Int) => good 88 [.inr 1000, .inr 1000, .inr 1000, .inr 1000] [] [.inl f0, .inl e.1] [g0, g1, g2, g3, e.2, g5, g6, g7]) (fun w : Int × Int × (Int → Int) => w = o) q) → good 2 [.inr 0, .inl x1, .inl x2, .inl x3] [] [.inl f0, .inl f1] [g0, g1, g2, g3, g4, g5, g6, g7] := by
    intro n
    induction n with
    | zero => intro x1 x2 x3 f1 g4 q h; exact absurd (show none = some q from h) (fun h => by cases h)
    | succ n ih =>
      intro x1 x2 x3 f1 g4 q h hK
      replace h : zf_Law_amount_l0_b x1 x2 f0 g0 g1 g2 g3 g5 g6 g7 (zf_Law_amount_l0 x1 x2 f0 g0 g1 g2 g3 g5 g6 g7 n) x3 f1 g4 = some q := h
      unfold zf_Law_amount_l0_b at h
      refine zv_ild hB zd146_2 rfl rfl ?_
      refine zv_ald hB zd146_3 rfl rfl rfl ?_
      refine zv_getf hB zd146_4 rfl rfl (fun _ _ => ?_)
      refine zv_cge hB zd146_7 rfl (fun hc1 => ?_) (fun hc1 => ?_)
      · rw [if_neg (Int.not_lt.mpr hc1)] at h
        have hq := Option.some.inj h
        subst hq
        refine zv_wk hB (L' := [.inr 1000, .inr 1000, .inr 1000, .inr 1000]) (F' := [.inl f0, .inl f1]) ⟨fun (h : zv_is (.inr 1000)) => (Nat.lt_irrefl 1000 h).elim, fun (h : zv_is (.inr 1000)) => (Nat.lt_irrefl 1000 h).elim, fun (h : zv_is (.inr 1000)) => (Nat.lt_irrefl 1000 h).elim, fun (h : zv_is (.inr 1000)) => (Nat.lt_irrefl 1000 h).elim, trivial⟩ ⟨fun _ => rfl, fun _ => rfl, trivial⟩ ?_
        exact hK
      · rw [if_pos hc1] at h
        refine zv_ald hB zd146_10 rfl rfl rfl ?_
        refine zv_getr hB zd146_11 rfl ?_
        refine zv_ild hB zd146_14 rfl rfl ?_
        obtain ⟨c2, h⟩ := zi_if h
        refine zv_iald hB zd146_15 rfl rfl (zi_ix_ok c2).1 (zi_ix_ok c2).2 (fun _ _ => ?_)
        refine zv_ild hB zd146_16 rfl rfl ?_
        refine zv_cne hB zd146_17 rfl (fun hc3 => ?_) (fun hc3 => ?_)
        · rw [if_neg hc3] at h
          refine zv_iincw hB zd146_82 rfl rfl ?_
          refine zv_goto hB zd146_85 rfl ?_
          exact ih _ _ _ _ _ q h hK
        · rw [if_pos hc3] at h
          refine zv_ald hB zd146_20 rfl rfl rfl ?_
          refine zv_ald hB zd146_21 rfl rfl rfl ?_
          refine zv_getr hB zd146_22 rfl ?_
          refine zv_ild hB zd146_25 rfl rfl ?_
          refine zv_iald hB zd146_26 rfl rfl (zi_ix_ok c2).1 (zi_ix_ok c2).2 (fun _ _ => ?_)
          refine zv_ald hB zd146_27 rfl rfl rfl ?_
          refine zv_getr hB zd146_28 rfl ?_
          refine zv_ild hB zd146_31 rfl rfl ?_
          refine zv_iald hB zd146_32 rfl rfl (zi_ix_ok c2).1 (zi_ix_ok c2).2 (fun _ _ => ?_)
          obtain ⟨r4, hr4, h⟩ := zi_bind h
          refine zv_cv hB (zv_emq (va2 := [.inr 0, .inl (g1 x3), .inl (g2 x3)]) (F := [.inl f0, .inl f1]) (F' := [.inl f0, .inl r4.2.1]) (G := [g0, g1, g2, g3, g4, g5, g6, g7]) (G' := [g0, g1, g2, g3, r4.2.2, g5, g6, g7]) (ρ := [0, 4, 5, 6, 7]) (φ := [1]) (ψ := [3, 4, 5, 6]) [none, some 0] [none, none, none, some 0, some 1, some 2, some 3, none] zyw_Law_run zyw_Law_amount zye_Law_amount (by decide +kernel) (zt_Law_run hr4) ⟨⟨_, rfl, fun _ => rfl⟩, trivial⟩ ⟨rfl, rfl, rfl, rfl, trivial⟩ rfl rfl rfl rfl rfl rfl rfl) zd146_33 zxt94 rfl (by decide) (by decide) rfl ?_
          refine zv_zeq hB zd146_36 rfl (fun hc5 => ?_) (fun hc5 => ?_)
          · rw [if_pos hc5] at h
            refine zv_iincw hB zd146_82 rfl rfl ?_
            refine zv_goto hB zd146_85 rfl ?_
            exact ih _ _ _ _ _ q h hK
          · rw [if_neg hc5] at h
            refine zv_ald hB zd146_39 rfl rfl rfl ?_
            refine zv_getf hB zd146_40 rfl rfl (fun _ _ => ?_)
            refine zv_zeq hB zd146_43 rfl (fun hc6 => ?_) (fun hc6 => ?_)
            · rw [if_pos hc6] at h
              refine zv_iincw hB zd146_82 rfl rfl ?_
              refine zv_goto hB zd146_85 rfl ?_
              exact ih _ _ _ _ _ q h hK
            · rw [if_neg hc6] at h
              refine zv_ald hB zd146_46 rfl rfl rfl ?_
              refine zv_ald hB zd146_47 rfl rfl rfl ?_
              refine zv_getr hB zd146_48 rfl ?_
              refine zv_ild hB zd146_51 rfl rfl ?_
              refine zv_iald hB zd146_52 rfl rfl (zi_ix_ok c2).1 (zi_ix_ok c2).2 (fun _ _ => ?_)
              refine zv_ald hB zd146_53 rfl rfl rfl ?_
              refine zv_getr hB zd146_54 rfl ?_
              refine zv_ild hB zd146_57 rfl rfl ?_
              refine zv_iald hB zd146_58 rfl rfl (zi_ix_ok c2).1 (zi_ix_ok c2).2 (fun _ _ => ?_)
              obtain ⟨r7, hr7, h⟩ := zi_bind h
              refine zv_cv hB (zv_emq (va2 := [.inr 0, .inl (g7 x3), .inl (g1 x3)]) (F := [.inl f0, .inl r4.2.1]) (F' := [.inl f0, .inl r7.2.1]) (G := [g0, g1, g2, g3, r4.2.2, g5, g6, g7]) (G' := [g0, g1, g2, g3, r7.2.2, g5, g6, g7]) (ρ := [0, 4, 5, 6, 7]) (φ := [1]) (ψ := [3, 4, 5, 6]) [none, some 0] [none, none, none, some 0, some 1, some 2, some 3, none] zyw_Law_run zyw_Law_amount zye_Law_amount (by decide +kernel) (zt_Law_run hr7) ⟨⟨_, rfl, fun _ => rfl⟩, trivial⟩ ⟨rfl, rfl, rfl, rfl, trivial⟩ rfl rfl rfl rfl rfl rfl rfl) zd146_59 zxt94 rfl (by decide) (by decide) rfl ?_
              refine zv_zeq hB zd146_62 rfl (fun hc8 => ?_) (fun hc8 => ?_)
              · rw [if_pos hc8] at h
                refine zv_con hB zd146_80 rfl ?_
                have hw : (0, r7.2.1, r7.2.2) = o := zi_rk (Option.some.inj h) hK
                subst hw
                exact hret _ _ _ _ _ zd146_81 (by trivial) ⟨rfl, rfl, rfl⟩
              · rw [if_neg hc8] at h
                refine zv_con hB zd146_65 rfl ?_
                refine zv_ild hB zd146_66 rfl rfl ?_
                refine zv_ald hB zd146_67 rfl rfl rfl ?_
                refine zv_getf hB zd146_68 rfl rfl (fun _ _ => ?_)
                obtain ⟨r9, hr9, h⟩ := zi_bind h
                refine zv_cs hB (zv_emq (va2 := [.inl x2, .inl r7.2.1]) (F := [.inl f0, .inl r7.2.1]) (F' := [.inl f0, .inl r7.2.1]) (G := [g0, g1, g2, g3, r7.2.2, g5, g6, g7]) (G' := [g0, g1, g2, g3, r7.2.2, g5, g6, g7]) (ρ := []) (φ := []) (ψ := []) [none, none] [none, none, none, none, none, none, none, none] zyw_Math_min zyw_Law_amount zye_Law_amount (by decide +kernel) (zt_Math_min hr9) trivial trivial rfl rfl rfl rfl rfl rfl rfl) zd146_71 zxt37 rfl (by decide) (by decide) rfl ?_
                obtain ⟨r10, hr10, h⟩ := zi_bind h
                refine zv_cs hB (zv_emq (va2 := [.inl 0, .inl r9]) (F := [.inl f0, .inl r7.2.1]) (F' := [.inl f0, .inl r7.2.1]) (G := [g0, g1, g2, g3, r7.2.2, g5, g6, g7]) (G' := [g0, g1, g2, g3, r7.2.2, g5, g6, g7]) (ρ := []) (φ := []) (ψ := []) [none, none] [none, none, none, none, none, none, none, none] zyw_Math_max zyw_Law_amount zye_Law_amount (by decide +kernel) (zt_Math_max hr10) trivial trivial rfl rfl rfl rfl rfl rfl rfl) zd146_74 zxt55 rfl (by decide) (by decide) rfl ?_
                refine zv_goto hB zd146_77 rfl ?_
                have hw : (r10, r7.2.1, r7.2.2) = o := zi_rk (Option.some.inj h) hK
                subst hw
                exact hret _ _ _ _ _ zd146_81 (by trivial) ⟨rfl, rfl, rfl⟩
  unfold zf_Law_amount at h
  refine zv_con hB zd146_0 rfl ?_
  refine zv_ist hB zd146_1 rfl rfl rfl ?_
  obtain ⟨q11, hq11, h⟩ := zi_bind h
  refine l0 _ _ _ _ _ _ q11 hq11 ?_
  rcases q11 with e12 | w13
  · replace h := zi_sl h
    show good 88 [.inr 1000, .inr 1000, .inr 1000, .inr 1000] [] [.inl f0, .inl e12.1] [g0, g1, g2, g3, e12.2, g5, g6, g7]
    refine zv_con hB zd146_88 rfl ?_
    have hw := Option.some.inj h
    subst hw
    exact hret _ _ _ _ _ zd146_89 (by trivial) ⟨rfl, rfl, rfl⟩
  · exact Option.some.inj h
end
