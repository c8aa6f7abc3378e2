/-! 60z.dec, 61a.dec, 61b.dec, 61c.dec, 61d.dec, 61e.dec -/
section
/-! Methods as functions, and that they do what these do. -/
/-! Chooser_pairsApart (II)I -/
-- names: 0 Chooser('arg', 0), 1 (0, 8)(0, 11, 0)
-- fields: ; arrays: g0 = 1; out: [('ret', None)]
abbrev zy_Chooser_pairsApart : zNL := (2, [(0, 11)], [], [(0, 11, 0, 1)], [(1, 0, 8, 0)])
theorem zyw_Chooser_pairsApart : zv_wf zy_Chooser_pairsApart = true := by decide +kernel
theorem zye_Chooser_pairsApart : zv_ek2 zy_Chooser_pairsApart = true := by decide +kernel
def zf_Chooser_pairsApart_l1_b (x1 : Int) (x5 : Int) (g0 : (Int → Int)) (rec : Int → Int → Int → Option (Int × Int)) (x3 : Int) (x4 : Int) (x6 : Int) : Option (Int × Int) := if x6 < x5 then (cond (zi_ix x5 8) (cond (zi_ix x6 8) (if (zi_and (zi_shr (zi_xor (g0 x5) (g0 x6)) x1) 1) = 0 then (rec x3 (zi_w (x4 + 1)) (zi_w (x6 + 1))) else (rec (zi_or x3 (zi_shl 1 x4)) (zi_w (x4 + 1)) (zi_w (x6 + 1)))) none) none) else (some (x3, x4))
def zf_Chooser_pairsApart_l1 (x1 : Int) (x5 : Int) (g0 : (Int → Int)) : Nat → Int → Int → Int → Option (Int × Int)
  | 0, _, _, _ => none
  | n + 1, x3, x4, x6 => zf_Chooser_pairsApart_l1_b x1 x5 g0 (zf_Chooser_pairsApart_l1 x1 x5 g0 n) x3 x4 x6
def zf_Chooser_pairsApart_l0_b (x1 : Int) (x2 : Int) (g0 : (Int → Int)) (rec : Int → Int → Int → Option (Int)) (x3 : Int) (x4 : Int) (x5 : Int) : Option (Int) := if x5 < x2 then ((zf_Chooser_pairsApart_l1 x1 x5 g0 zi_fu x3 x4 0).bind fun q6 => (rec q6.1 q6.2 (zi_w (x5 + 1)))) else (some x3)
def zf_Chooser_pairsApart_l0 (x1 : Int) (x2 : Int) (g0 : (Int → Int)) : Nat → Int → Int → Int → Option (Int)
  | 0, _, _, _ => none
  | n + 1, x3, x4, x5 => zf_Chooser_pairsApart_l0_b x1 x2 g0 (zf_Chooser_pairsApart_l0 x1 x2 g0 n) x3 x4 x5
def zf_Chooser_pairsApart (x1 : Int) (x2 : Int) (g0 : (Int → Int)) : Option (Int) := (zf_Chooser_pairsApart_l0 x1 x2 g0 zi_fu 0 0 0).bind fun q7 => (some q7)
theorem zd142_0 : decode zxm142.2.1 0 = .ok (.iconst 0, 1) := by decide +kernel
theorem zd142_1 : decode zxm142.2.1 1 = .ok (.istore_n 3, 1) := by decide +kernel
theorem zd142_2 : decode zxm142.2.1 2 = .ok (.iconst 0, 1) := by decide +kernel
theorem zd142_3 : decode zxm142.2.1 3 = .ok (.istore 4, 2) := by decide +kernel
theorem zd142_5 : decode zxm142.2.1 5 = .ok (.iconst 0, 1) := by decide +kernel
theorem zd142_6 : decode zxm142.2.1 6 = .ok (.istore 5, 2) := by decide +kernel
theorem zd142_8 : decode zxm142.2.1 8 = .ok (.iload 5, 2) := by decide +kernel
theorem zd142_10 : decode zxm142.2.1 10 = .ok (.iload_n 2, 1) := by decide +kernel
theorem zd142_11 : decode zxm142.2.1 11 = .ok (.if_icmp .ge 57, 3) := by decide +kernel
theorem zd142_14 : decode zxm142.2.1 14 = .ok (.iconst 0, 1) := by decide +kernel
theorem zd142_15 : decode zxm142.2.1 15 = .ok (.istore 6, 2) := by decide +kernel
theorem zd142_17 : decode zxm142.2.1 17 = .ok (.iload 6, 2) := by decide +kernel
theorem zd142_19 : decode zxm142.2.1 19 = .ok (.iload 5, 2) := by decide +kernel
theorem zd142_21 : decode zxm142.2.1 21 = .ok (.if_icmp .ge 41, 3) := by decide +kernel
theorem zd142_24 : decode zxm142.2.1 24 = .ok (.aload_n 0, 1) := by decide +kernel
theorem zd142_25 : decode zxm142.2.1 25 = .ok (.getfield 11, 3) := by decide +kernel
theorem zd142_28 : decode zxm142.2.1 28 = .ok (.iload 5, 2) := by decide +kernel
theorem zd142_30 : decode zxm142.2.1 30 = .ok (.iaload, 1) := by decide +kernel
theorem zd142_31 : decode zxm142.2.1 31 = .ok (.aload_n 0, 1) := by decide +kernel
theorem zd142_32 : decode zxm142.2.1 32 = .ok (.getfield 11, 3) := by decide +kernel
theorem zd142_35 : decode zxm142.2.1 35 = .ok (.iload 6, 2) := by decide +kernel
theorem zd142_37 : decode zxm142.2.1 37 = .ok (.iaload, 1) := by decide +kernel
theorem zd142_38 : decode zxm142.2.1 38 = .ok (.ixor, 1) := by decide +kernel
theorem zd142_39 : decode zxm142.2.1 39 = .ok (.iload_n 1, 1) := by decide +kernel
theorem zd142_40 : decode zxm142.2.1 40 = .ok (.ishr, 1) := by decide +kernel
theorem zd142_41 : decode zxm142.2.1 41 = .ok (.iconst 1, 1) := by decide +kernel
theorem zd142_42 : decode zxm142.2.1 42 = .ok (.iand, 1) := by decide +kernel
theorem zd142_43 : decode zxm142.2.1 43 = .ok (.ifCond .eq 10, 3) := by decide +kernel
theorem zd142_46 : decode zxm142.2.1 46 = .ok (.iload_n 3, 1) := by decide +kernel
theorem zd142_47 : decode zxm142.2.1 47 = .ok (.iconst 1, 1) := by decide +kernel
theorem zd142_48 : decode zxm142.2.1 48 = .ok (.iload 4, 2) := by decide +kernel
theorem zd142_50 : decode zxm142.2.1 50 = .ok (.ishl, 1) := by decide +kernel
theorem zd142_51 : decode zxm142.2.1 51 = .ok (.ior, 1) := by decide +kernel
theorem zd142_52 : decode zxm142.2.1 52 = .ok (.istore_n 3, 1) := by decide +kernel
theorem zd142_53 : decode zxm142.2.1 53 = .ok (.iinc 4 1, 3) := by decide +kernel
theorem zd142_56 : decode zxm142.2.1 56 = .ok (.iinc 6 1, 3) := by decide +kernel
theorem zd142_59 : decode zxm142.2.1 59 = .ok (.goto (-42), 3) := by decide +kernel
theorem zd142_62 : decode zxm142.2.1 62 = .ok (.iinc 5 1, 3) := by decide +kernel
theorem zd142_65 : decode zxm142.2.1 65 = .ok (.goto (-57), 3) := by decide +kernel
theorem zd142_68 : decode zxm142.2.1 68 = .ok (.iload_n 3, 1) := by decide +kernel
theorem zd142_69 : decode zxm142.2.1 69 = .ok (.ireturn, 1) := by decide +kernel
theorem zt_Chooser_pairsApart {x1 : Int} {x2 : Int} {g0 : (Int → Int)} {o : Int} (h : zf_Chooser_pairsApart x1 x2 g0 = some o) : zv_Fn z_TB z_cl z_KX zy_Chooser_pairsApart zxm142 (0, 0) [.inr 0, .inl x1, .inl x2] [] [g0] (some o) [] [g0] := zv_meth (K := (z_KF1, z_KC1, z_KL1, z_KT1, [], [], [], none)) (FT := z_FT) (MT := z_MT) (n := 3) zxp142 (z_ks1 _ (fun _ h => List.mem_cons_of_mem _ h) _ _ _ _ (fun j r h _ => by cases h)) (fun _ _ => zs_KX_p) zyw_Chooser_pairsApart (fun va F G h => by obtain ⟨rfl, _⟩ := h; rfl) (fun va F G h => by obtain ⟨rfl, _⟩ := h; rfl) rfl fun good va F G hB hret hvret hP => by
  obtain ⟨rfl, rfl, rfl⟩ := hP
  have l1 : ∀ (n : Nat) (x1 : Int) (x2 : Int) (x3 : Int) (x4 : Int) (x5 : Int) (x6 : Int) (q : Int × Int), zf_Chooser_pairsApart_l1 x1 x5 g0 n x3 x4 x6 = some q → (good 62 [.inr 0, .inl x1, .inl x2, .inl q.1, .inl q.2, .inl x5, .inr 1000] [] [] [g0]) → good 17 [.inr 0, .inl x1, .inl x2, .inl x3, .inl x4, .inl x5, .inl x6] [] [] [g0] := by
    intro n
    induction n with
    | zero => intro x1 x2 x3 x4 x5 x6 q h; exact absurd (show none = some q from h) (fun h => by cases h)
    | succ n ih =>
      intro x1 x2 x3 x4 x5 x6 q h hK
      replace h : zf_Chooser_pairsApart_l1_b x1 x5 g0 (zf_Chooser_pairsApart_l1 x1 x5 g0 n) x3 x4 x6 = some q := h
      unfold zf_Chooser_pairsApart_l1_b at h
      refine zv_ild hB zd142_17 rfl rfl ?_
      refine zv_ild hB zd142_19 rfl rfl ?_
      refine zv_cge hB zd142_21 rfl (fun hc2 => ?_) (fun hc2 => ?_)
      · rw [if_neg (Int.not_lt.mpr hc2)] at h
        have hq := Option.some.inj h
        subst hq
        refine zv_wk hB (L' := [.inr 0, .inl x1, .inl x2, .inl x3, .inl x4, .inl x5, .inr 1000]) (F' := []) ⟨fun _ => rfl, fun _ => rfl, fun _ => rfl, fun _ => rfl, fun _ => rfl, fun _ => rfl, fun (h : zv_is (.inr 1000)) => (Nat.lt_irrefl 1000 h).elim, trivial⟩ trivial ?_
        exact hK
      · rw [if_pos hc2] at h
        refine zv_ald hB zd142_24 rfl rfl rfl ?_
        refine zv_getr hB zd142_25 rfl ?_
        refine zv_ild hB zd142_28 rfl rfl ?_
        obtain ⟨c3, h⟩ := zi_if h
        refine zv_iald hB zd142_30 rfl rfl (zi_ix_ok c3).1 (zi_ix_ok c3).2 (fun _ _ => ?_)
        refine zv_ald hB zd142_31 rfl rfl rfl ?_
        refine zv_getr hB zd142_32 rfl ?_
        refine zv_ild hB zd142_35 rfl rfl ?_
        obtain ⟨c4, h⟩ := zi_if h
        refine zv_iald hB zd142_37 rfl rfl (zi_ix_ok c4).1 (zi_ix_ok c4).2 (fun _ _ => ?_)
        refine zv_xorw hB zd142_38 ?_
        refine zv_ild hB zd142_39 rfl rfl ?_
        refine zv_shrw hB zd142_40 ?_
        refine zv_con hB zd142_41 rfl ?_
        refine zv_andw hB zd142_42 ?_
        refine zv_zeq hB zd142_43 rfl (fun hc5 => ?_) (fun hc5 => ?_)
        · rw [if_pos hc5] at h
          refine zv_iincw hB zd142_53 rfl rfl ?_
          refine zv_iincw hB zd142_56 rfl rfl ?_
          refine zv_goto hB zd142_59 rfl ?_
          exact ih _ _ _ _ _ _ q h hK
        · rw [if_neg hc5] at h
          refine zv_ild hB zd142_46 rfl rfl ?_
          refine zv_con hB zd142_47 rfl ?_
          refine zv_ild hB zd142_48 rfl rfl ?_
          refine zv_shlw hB zd142_50 ?_
          refine zv_orw hB zd142_51 ?_
          refine zv_ist hB zd142_52 rfl rfl rfl ?_
          refine zv_iincw hB zd142_53 rfl rfl ?_
          refine zv_iincw hB zd142_56 rfl rfl ?_
          refine zv_goto hB zd142_59 rfl ?_
          exact ih _ _ _ _ _ _ q h hK
  have l0 : ∀ (n : Nat) (x1 : Int) (x2 : Int) (x3 : Int) (x4 : Int) (x5 : Int) (q : Int), zf_Chooser_pairsApart_l0 x1 x2 g0 n x3 x4 x5 = some q → (good 68 [.inr 1000, .inr 1000, .inr 1000, .inl q, .inr 1000, .inr 1000, .inr 1000] [] [] [g0]) → good 8 [.inr 0, .inl x1, .inl x2, .inl x3, .inl x4, .inl x5, .inr 1000] [] [] [g0] := by
    intro n
    induction n with
    | zero => intro x1 x2 x3 x4 x5 q h; exact absurd (show none = some q from h) (fun h => by cases h)
    | succ n ih =>
      intro x1 x2 x3 x4 x5 q h hK
      replace h : zf_Chooser_pairsApart_l0_b x1 x2 g0 (zf_Chooser_pairsApart_l0 x1 x2 g0 n) x3 x4 x5 = some q := h
      unfold zf_Chooser_pairsApart_l0_b at h
      refine zv_ild hB zd142_8 rfl rfl ?_
      refine zv_ild hB zd142_10 rfl rfl ?_
      refine zv_cge hB zd142_11 rfl (fun hc1 => ?_) (fun hc1 => ?_)
      · rw [if_neg (Int.not_lt.mpr hc1)] at h
        have hq := Option.some.inj h
        subst hq
        refine zv_wk hB (L' := [.inr 1000, .inr 1000, .inr 1000, .inl x3, .inr 1000, .inr 1000, .inr 1000]) (F' := []) ⟨fun (h : zv_is (.inr 1000)) => (Nat.lt_irrefl 1000 h).elim, fun (h : zv_is (.inr 1000)) => (Nat.lt_irrefl 1000 h).elim, fun (h : zv_is (.inr 1000)) => (Nat.lt_irrefl 1000 h).elim, fun _ => rfl, fun (h : zv_is (.inr 1000)) => (Nat.lt_irrefl 1000 h).elim, fun (h : zv_is (.inr 1000)) => (Nat.lt_irrefl 1000 h).elim, fun (h : zv_is (.inr 1000)) => (Nat.lt_irrefl 1000 h).elim, trivial⟩ trivial ?_
        exact hK
      · rw [if_pos hc1] at h
        refine zv_con hB zd142_14 rfl ?_
        refine zv_ist hB zd142_15 rfl rfl rfl ?_
        obtain ⟨q6, hq6, h⟩ := zi_bind h
        refine l1 _ _ _ _ _ _ _ q6 hq6 ?_
        show good 62 [.inr 0, .inl x1, .inl x2, .inl q6.1, .inl q6.2, .inl x5, .inr 1000] [] [] [g0]
        refine zv_iincw hB zd142_62 rfl rfl ?_
        refine zv_goto hB zd142_65 rfl ?_
        exact ih _ _ _ _ _ q h hK
  unfold zf_Chooser_pairsApart at h
  refine zv_con hB zd142_0 rfl ?_
  refine zv_ist hB zd142_1 rfl rfl rfl ?_
  refine zv_con hB zd142_2 rfl ?_
  refine zv_ist hB zd142_3 rfl rfl rfl ?_
  refine zv_con hB zd142_5 rfl ?_
  refine zv_ist hB zd142_6 rfl rfl rfl ?_
  obtain ⟨q7, hq7, h⟩ := zi_bind h
  refine l0 _ _ _ _ _ _ q7 hq7 ?_
  show good 68 [.inr 1000, .inr 1000, .inr 1000, .inl q7, .inr 1000, .inr 1000, .inr 1000] [] [] [g0]
  refine zv_ild hB zd142_68 rfl rfl ?_
  have hw := Option.some.inj h
  subst hw
  exact hret _ _ _ _ _ zd142_69 (by trivial) ⟨rfl, rfl, rfl⟩
/-! Chooser_leastCover (III)I -/
-- names: 0 Chooser('arg', 0), 1 (0, 24)(0, 11, 1), 2 (0, 24)(0, 11, 2)
-- fields: ; arrays: g0 = 1, g1 = 2; out: [('ret', None)]
abbrev zy_Chooser_leastCover : zNL := (3, [(0, 11)], [], [(0, 11, 1, 1), (0, 11, 2, 2)], [(1, 0, 24, 0), (2, 0, 24, 1)])
theorem zyw_Chooser_leastCover : zv_wf zy_Chooser_leastCover = true := by decide +kernel
theorem zye_Chooser_leastCover : zv_ek2 zy_Chooser_leastCover = true := by decide +kernel
def zm_Chooser_leastCover_l0_b (rc : Nat → Int → Int → Int → (Int → Int) → (Int → Int) → Option (Int)) (x1 : Int) (x2 : Int) (x3 : Int) (g0 : (Int → Int)) (g1 : (Int → Int)) (rec : Int → Option (((Unit) ⊕ (Int)))) (x4 : Int) : Option (((Unit) ⊕ (Int))) := if x4 < x2 then (if x4 < 24 then (cond (zi_ix x4 24) (if (zi_and (g0 x4) x3) = 0 then (rec (zi_w (x4 + 1))) else (if (zi_and (g1 x4) x3) = x3 then ((rc 0 (zi_w (x1 - 1)) x4 (zi_and x3 (zi_xor (g0 x4) (-1))) g0 g1).bind fun r10 => (if r10 = (-1) then (rec (zi_w (x4 + 1))) else (some (.inr (zi_or r10 (zi_shl 1 x4)))))) else (rec (zi_w (x4 + 1))))) none) else (some (.inl ()))) else (some (.inl ()))
def zm_Chooser_leastCover_l0 (rc : Nat → Int → Int → Int → (Int → Int) → (Int → Int) → Option (Int)) (x1 : Int) (x2 : Int) (x3 : Int) (g0 : (Int → Int)) (g1 : (Int → Int)) : Nat → Int → Option (((Unit) ⊕ (Int)))
  | 0, _ => none
  | n + 1, x4 => zm_Chooser_leastCover_l0_b rc x1 x2 x3 g0 g1 (zm_Chooser_leastCover_l0 rc x1 x2 x3 g0 g1 n) x4
def zm_Chooser_leastCover (rc : Nat → Int → Int → Int → (Int → Int) → (Int → Int) → Option (Int)) (x1 : Int) (x2 : Int) (x3 : Int) (g0 : (Int → Int)) (g1 : (Int → Int)) : Option (Int) := if 0 < x1 then ((zm_Chooser_leastCover_l0 rc x1 x2 x3 g0 g1 zi_fu 0).bind fun q12 => Sum.elim (fun e13 => (some (-1))) (fun w14 => some w14) q12) else (if x3 = 0 then (some 0) else (some (-1)))
theorem zd143_0 : decode zxm143.2.1 0 = .ok (.iload_n 1, 1) := by decide +kernel
theorem zd143_1 : decode zxm143.2.1 1 = .ok (.ifCond .gt 13, 3) := by decide +kernel
theorem zd143_4 : decode zxm143.2.1 4 = .ok (.iload_n 3, 1) := by decide +kernel
theorem zd143_5 : decode zxm143.2.1 5 = .ok (.ifCond .ne 7, 3) := by decide +kernel
theorem zd143_8 : decode zxm143.2.1 8 = .ok (.iconst 0, 1) := by decide +kernel
theorem zd143_9 : decode zxm143.2.1 9 = .ok (.goto 4, 3) := by decide +kernel
theorem zd143_12 : decode zxm143.2.1 12 = .ok (.iconst (-1), 1) := by decide +kernel
theorem zd143_13 : decode zxm143.2.1 13 = .ok (.ireturn, 1) := by decide +kernel
theorem zd143_14 : decode zxm143.2.1 14 = .ok (.iconst 0, 1) := by decide +kernel
theorem zd143_15 : decode zxm143.2.1 15 = .ok (.istore 4, 2) := by decide +kernel
theorem zd143_17 : decode zxm143.2.1 17 = .ok (.iload 4, 2) := by decide +kernel
theorem zd143_19 : decode zxm143.2.1 19 = .ok (.iload_n 2, 1) := by decide +kernel
theorem zd143_20 : decode zxm143.2.1 20 = .ok (.if_icmp .ge 89, 3) := by decide +kernel
theorem zd143_23 : decode zxm143.2.1 23 = .ok (.iload 4, 2) := by decide +kernel
theorem zd143_25 : decode zxm143.2.1 25 = .ok (.bipush 24, 2) := by decide +kernel
theorem zd143_27 : decode zxm143.2.1 27 = .ok (.if_icmp .ge 82, 3) := by decide +kernel
theorem zd143_30 : decode zxm143.2.1 30 = .ok (.aload_n 0, 1) := by decide +kernel
theorem zd143_31 : decode zxm143.2.1 31 = .ok (.getfield 15, 3) := by decide +kernel
theorem zd143_34 : decode zxm143.2.1 34 = .ok (.iload 4, 2) := by decide +kernel
theorem zd143_36 : decode zxm143.2.1 36 = .ok (.iaload, 1) := by decide +kernel
theorem zd143_37 : decode zxm143.2.1 37 = .ok (.iload_n 3, 1) := by decide +kernel
theorem zd143_38 : decode zxm143.2.1 38 = .ok (.iand, 1) := by decide +kernel
theorem zd143_39 : decode zxm143.2.1 39 = .ok (.ifCond .eq 20, 3) := by decide +kernel
theorem zd143_42 : decode zxm143.2.1 42 = .ok (.aload_n 0, 1) := by decide +kernel
theorem zd143_43 : decode zxm143.2.1 43 = .ok (.getfield 18, 3) := by decide +kernel
theorem zd143_46 : decode zxm143.2.1 46 = .ok (.iload 4, 2) := by decide +kernel
theorem zd143_48 : decode zxm143.2.1 48 = .ok (.iaload, 1) := by decide +kernel
theorem zd143_49 : decode zxm143.2.1 49 = .ok (.iload_n 3, 1) := by decide +kernel
theorem zd143_50 : decode zxm143.2.1 50 = .ok (.iand, 1) := by decide +kernel
theorem zd143_51 : decode zxm143.2.1 51 = .ok (.iload_n 3, 1) := by decide +kernel
theorem zd143_52 : decode zxm143.2.1 52 = .ok (.if_icmp .ne 7, 3) := by decide +kernel
theorem zd143_55 : decode zxm143.2.1 55 = .ok (.iconst 1, 1) := by decide +kernel
theorem zd143_56 : decode zxm143.2.1 56 = .ok (.goto 4, 3) := by decide +kernel
theorem zd143_59 : decode zxm143.2.1 59 = .ok (.iconst 0, 1) := by decide +kernel
theorem zd143_60 : decode zxm143.2.1 60 = .ok (.istore 5, 2) := by decide +kernel
theorem zd143_62 : decode zxm143.2.1 62 = .ok (.iload 5, 2) := by decide +kernel
theorem zd143_64 : decode zxm143.2.1 64 = .ok (.ifCond .eq 39, 3) := by decide +kernel
theorem zd143_67 : decode zxm143.2.1 67 = .ok (.aload_n 0, 1) := by decide +kernel
theorem zd143_68 : decode zxm143.2.1 68 = .ok (.iload_n 1, 1) := by decide +kernel
theorem zd143_69 : decode zxm143.2.1 69 = .ok (.iconst 1, 1) := by decide +kernel
theorem zd143_70 : decode zxm143.2.1 70 = .ok (.isub, 1) := by decide +kernel
theorem zd143_71 : decode zxm143.2.1 71 = .ok (.iload 4, 2) := by decide +kernel
theorem zd143_73 : decode zxm143.2.1 73 = .ok (.iload_n 3, 1) := by decide +kernel
theorem zd143_74 : decode zxm143.2.1 74 = .ok (.aload_n 0, 1) := by decide +kernel
theorem zd143_75 : decode zxm143.2.1 75 = .ok (.getfield 15, 3) := by decide +kernel
theorem zd143_78 : decode zxm143.2.1 78 = .ok (.iload 4, 2) := by decide +kernel
theorem zd143_80 : decode zxm143.2.1 80 = .ok (.iaload, 1) := by decide +kernel
theorem zd143_81 : decode zxm143.2.1 81 = .ok (.iconst (-1), 1) := by decide +kernel
theorem zd143_82 : decode zxm143.2.1 82 = .ok (.ixor, 1) := by decide +kernel
theorem zd143_83 : decode zxm143.2.1 83 = .ok (.iand, 1) := by decide +kernel
theorem zd143_84 : decode zxm143.2.1 84 = .ok (.invokevirtual 48, 3) := by decide +kernel
theorem zd143_87 : decode zxm143.2.1 87 = .ok (.istore 6, 2) := by decide +kernel
theorem zd143_89 : decode zxm143.2.1 89 = .ok (.iload 6, 2) := by decide +kernel
theorem zd143_91 : decode zxm143.2.1 91 = .ok (.iconst (-1), 1) := by decide +kernel
theorem zd143_92 : decode zxm143.2.1 92 = .ok (.if_icmp .eq 11, 3) := by decide +kernel
theorem zd143_95 : decode zxm143.2.1 95 = .ok (.iload 6, 2) := by decide +kernel
theorem zd143_97 : decode zxm143.2.1 97 = .ok (.iconst 1, 1) := by decide +kernel
theorem zd143_98 : decode zxm143.2.1 98 = .ok (.iload 4, 2) := by decide +kernel
theorem zd143_100 : decode zxm143.2.1 100 = .ok (.ishl, 1) := by decide +kernel
theorem zd143_101 : decode zxm143.2.1 101 = .ok (.ior, 1) := by decide +kernel
theorem zd143_102 : decode zxm143.2.1 102 = .ok (.ireturn, 1) := by decide +kernel
theorem zd143_103 : decode zxm143.2.1 103 = .ok (.iinc 4 1, 3) := by decide +kernel
theorem zd143_106 : decode zxm143.2.1 106 = .ok (.goto (-89), 3) := by decide +kernel
theorem zd143_109 : decode zxm143.2.1 109 = .ok (.iconst (-1), 1) := by decide +kernel
theorem zd143_110 : decode zxm143.2.1 110 = .ok (.ireturn, 1) := by decide +kernel
theorem zts_Chooser_leastCover {dp : Nat} {rc : Nat → Int → Int → Int → (Int → Int) → (Int → Int) → Option (Int)} (ih0 : ∀ (x1 : Int) (x2 : Int) (x3 : Int) (g0 : (Int → Int)) (g1 : (Int → Int)) (o : Int), rc 0 x1 x2 x3 g0 g1 = some o → zv_Fn z_TB z_cl z_KX zy_Chooser_leastCover zxm143 (0 + dp, 60 * (0 + dp)) [.inr 0, .inl x1, .inl x2, .inl x3] [] [g0, g1] (some o) [] [g0, g1]) {x1 : Int} {x2 : Int} {x3 : Int} {g0 : (Int → Int)} {g1 : (Int → Int)} {o : Int} (h : zm_Chooser_leastCover rc x1 x2 x3 g0 g1 = some o) : zv_Fn z_TB z_cl z_KX zy_Chooser_leastCover zxm143 (0 + (dp + 1), 60 * (0 + (dp + 1))) [.inr 0, .inl x1, .inl x2, .inl x3] [] [g0, g1] (some o) [] [g0, g1] := zv_meth (K := (z_KF1, z_KC1, z_KL1, z_KT1, [], [], [], none)) (FT := z_FT) (MT := z_MT) (n := 4) zxp143 (z_ks1 _ (fun _ h => List.mem_cons_of_mem _ h) _ _ _ _ (fun j r h _ => by cases h)) (fun _ _ => zs_KX_p) zyw_Chooser_leastCover (fun va F G h => by obtain ⟨rfl, _⟩ := h; rfl) (fun va F G h => by obtain ⟨rfl, _⟩ := h; rfl) rfl fun good va F G hB hret hvret hP => by
  obtain ⟨rfl, rfl, rfl⟩ := hP
  have l0 : ∀ (n : Nat) (x1 : Int) (x2 : Int) (x3 : Int) (x4 : Int) (q : ((Unit) ⊕ (Int))), zm_Chooser_leastCover_l0 rc x1 x2 x3 g0 g1 n x4 = some q → (Sum.elim (fun e : Unit => good 109 [.inr 1000, .inr 1000, .inr 1000, .inr 1000, .inr 1000, .inr 1000, .inr 1000] [] [] [g0, g1]) (fun w : Int => w = o) q) → good 17 [.inr 0, .inl x1, .inl x2, .inl x3, .inl x4, .inr 1000, .inr 1000] [] [] [g0, g1] := by
    intro n
    induction n with
    | zero => intro x1 x2 x3 x4 q h; exact absurd (show none = some q from h) (fun h => by cases h)
    | succ n ih =>
      intro x1 x2 x3 x4 q h hK
      replace h : zm_Chooser_leastCover_l0_b rc x1 x2 x3 g0 g1 (zm_Chooser_leastCover_l0 rc x1 x2 x3 g0 g1 n) x4 = some q := h
      unfold zm_Chooser_leastCover_l0_b at h
      refine zv_ild hB zd143_17 rfl rfl ?_
      refine zv_ild hB zd143_19 rfl rfl ?_
      refine zv_cge hB zd143_20 rfl (fun hc2 => ?_) (fun hc2 => ?_)
      · rw [if_neg (Int.not_lt.mpr hc2)] at h
        have hq := Option.some.inj h
        subst hq
        refine zv_wk hB (L' := [.inr 1000, .inr 1000, .inr 1000, .inr 1000, .inr 1000, .inr 1000, .inr 1000]) (F' := []) ⟨fun (h : zv_is (.inr 1000)) => (Nat.lt_irrefl 1000 h).elim, fun (h : zv_is (.inr 1000)) => (Nat.lt_irrefl 1000 h).elim, fun (h : zv_is (.inr 1000)) => (Nat.lt_irrefl 1000 h).elim, fun (h : zv_is (.inr 1000)) => (Nat.lt_irrefl 1000 h).elim, fun (h : zv_is (.inr 1000)) => (Nat.lt_irrefl 1000 h).elim, fun (h : zv_is (.inr 1000)) => (Nat.lt_irrefl 1000 h).elim, fun (h : zv_is (.inr 1000)) => (Nat.lt_irrefl 1000 h).elim, trivial⟩ trivial ?_
        exact hK
      · rw [if_pos hc2] at h
        refine zv_ild hB zd143_23 rfl rfl ?_
        refine zv_con hB zd143_25 rfl ?_
        refine zv_cge hB zd143_27 rfl (fun hc3 => ?_) (fun hc3 => ?_)
        · rw [if_neg (Int.not_lt.mpr hc3)] at h
          have hq := Option.some.inj h
          subst hq
          refine zv_wk hB (L' := [.inr 1000, .inr 1000, .inr 1000, .inr 1000, .inr 1000, .inr 1000, .inr 1000]) (F' := []) ⟨fun (h : zv_is (.inr 1000)) => (Nat.lt_irrefl 1000 h).elim, fun (h : zv_is (.inr 1000)) => (Nat.lt_irrefl 1000 h).elim, fun (h : zv_is (.inr 1000)) => (Nat.lt_irrefl 1000 h).elim, fun (h : zv_is (.inr 1000)) => (Nat.lt_irrefl 1000 h).elim, fun (h : zv_is (.inr 1000)) => (Nat.lt_irrefl 1000 h).elim, fun (h : zv_is (.inr 1000)) => (Nat.lt_irrefl 1000 h).elim, fun (h : zv_is (.inr 1000)) => (Nat.lt_irrefl 1000 h).elim, trivial⟩ trivial ?_
          exact hK
        · rw [if_pos hc3] at h
          refine zv_ald hB zd143_30 rfl rfl rfl ?_
          refine zv_getr hB zd143_31 rfl ?_
          refine zv_ild hB zd143_34 rfl rfl ?_
          obtain ⟨c4, h⟩ := zi_if h
          refine zv_iald hB zd143_36 rfl rfl (zi_ix_ok c4).1 (zi_ix_ok c4).2 (fun _ _ => ?_)
          refine zv_ild hB zd143_37 rfl rfl ?_
          refine zv_andw hB zd143_38 ?_
          refine zv_zeq hB zd143_39 rfl (fun hc5 => ?_) (fun hc5 => ?_)
          · rw [if_pos hc5] at h
            refine zv_con hB zd143_59 rfl ?_
            refine zv_ist hB zd143_60 rfl rfl rfl ?_
            refine zv_ild hB zd143_62 rfl rfl ?_
            refine zv_zeq hB zd143_64 rfl (fun _ => ?_) (fun hc => absurd hc (by decide))
            refine zv_iincw hB zd143_103 rfl rfl ?_
            refine zv_goto hB zd143_106 rfl ?_
            refine zv_wk hB (L' := [.inr 0, .inl x1, .inl x2, .inl x3, .inl (zi_w (x4 + 1)), .inr 1000, .inr 1000]) (F' := []) ⟨fun _ => rfl, fun _ => rfl, fun _ => rfl, fun _ => rfl, fun _ => rfl, fun (h : zv_is (.inr 1000)) => (Nat.lt_irrefl 1000 h).elim, fun (h : zv_is (.inr 1000)) => (Nat.lt_irrefl 1000 h).elim, trivial⟩ trivial ?_
            exact ih _ _ _ _ q h hK
          · rw [if_neg hc5] at h
            refine zv_ald hB zd143_42 rfl rfl rfl ?_
            refine zv_getr hB zd143_43 rfl ?_
            refine zv_ild hB zd143_46 rfl rfl ?_
            refine zv_iald hB zd143_48 rfl rfl (zi_ix_ok c4).1 (zi_ix_ok c4).2 (fun _ _ => ?_)
            refine zv_ild hB zd143_49 rfl rfl ?_
            refine zv_andw hB zd143_50 ?_
            refine zv_ild hB zd143_51 rfl rfl ?_
            refine zv_cne hB zd143_52 rfl (fun hc7 => ?_) (fun hc7 => ?_)
            · rw [if_neg hc7] at h
              refine zv_con hB zd143_59 rfl ?_
              refine zv_ist hB zd143_60 rfl rfl rfl ?_
              refine zv_ild hB zd143_62 rfl rfl ?_
              refine zv_zeq hB zd143_64 rfl (fun _ => ?_) (fun hc => absurd hc (by decide))
              refine zv_iincw hB zd143_103 rfl rfl ?_
              refine zv_goto hB zd143_106 rfl ?_
              refine zv_wk hB (L' := [.inr 0, .inl x1, .inl x2, .inl x3, .inl (zi_w (x4 + 1)), .inr 1000, .inr 1000]) (F' := []) ⟨fun _ => rfl, fun _ => rfl, fun _ => rfl, fun _ => rfl, fun _ => rfl, fun (h : zv_is (.inr 1000)) => (Nat.lt_irrefl 1000 h).elim, fun (h : zv_is (.inr 1000)) => (Nat.lt_irrefl 1000 h).elim, trivial⟩ trivial ?_
              exact ih _ _ _ _ q h hK
            · rw [if_pos hc7] at h
              refine zv_con hB zd143_55 rfl ?_
              refine zv_goto hB zd143_56 rfl ?_
              refine zv_ist hB zd143_60 rfl rfl rfl ?_
              refine zv_ild hB zd143_62 rfl rfl ?_
              refine zv_zeq hB zd143_64 rfl (fun hc => absurd hc (by decide)) (fun _ => ?_)
              refine zv_ald hB zd143_67 rfl rfl rfl ?_
              refine zv_ild hB zd143_68 rfl rfl ?_
              refine zv_con hB zd143_69 rfl ?_
              refine zv_subw hB zd143_70 ?_
              refine zv_ild hB zd143_71 rfl rfl ?_
              refine zv_ild hB zd143_73 rfl rfl ?_
              refine zv_ald hB zd143_74 rfl rfl rfl ?_
              refine zv_getr hB zd143_75 rfl ?_
              refine zv_ild hB zd143_78 rfl rfl ?_
              refine zv_iald hB zd143_80 rfl rfl (zi_ix_ok c4).1 (zi_ix_ok c4).2 (fun _ _ => ?_)
              refine zv_con hB zd143_81 rfl ?_
              refine zv_xorw hB zd143_82 ?_
              refine zv_andw hB zd143_83 ?_
              obtain ⟨r10, hr10, h⟩ := zi_bind h
              refine zv_cv hB (show zv_Fn _ _ _ zy_Chooser_leastCover _ _ [.inr 0, .inl (zi_w (x1 - 1)), .inl x4, .inl (zi_and x3 (zi_xor (g0 x4) (-1)))] [] [g0, g1] (some r10) [] [g0, g1] from ih0 _ _ _ _ _ r10 hr10) zd143_84 zxt143 rfl (by show 0 + dp + 1 ≤ 0 + (dp + 1); omega) (by show 8 + (7 + 11) + 60 * (0 + dp) ≤ 60 * (0 + (dp + 1)); omega) rfl ?_
              refine zv_ist hB zd143_87 rfl rfl rfl ?_
              refine zv_ild hB zd143_89 rfl rfl ?_
              refine zv_con hB zd143_91 rfl ?_
              refine zv_ceq hB zd143_92 rfl (fun hc11 => ?_) (fun hc11 => ?_)
              · rw [if_pos hc11] at h
                refine zv_iincw hB zd143_103 rfl rfl ?_
                refine zv_goto hB zd143_106 rfl ?_
                refine zv_wk hB (L' := [.inr 0, .inl x1, .inl x2, .inl x3, .inl (zi_w (x4 + 1)), .inr 1000, .inr 1000]) (F' := []) ⟨fun _ => rfl, fun _ => rfl, fun _ => rfl, fun _ => rfl, fun _ => rfl, fun (h : zv_is (.inr 1000)) => (Nat.lt_irrefl 1000 h).elim, fun (h : zv_is (.inr 1000)) => (Nat.lt_irrefl 1000 h).elim, trivial⟩ trivial ?_
                exact ih _ _ _ _ q h hK
              · rw [if_neg hc11] at h
                refine zv_ild hB zd143_95 rfl rfl ?_
                refine zv_con hB zd143_97 rfl ?_
                refine zv_ild hB zd143_98 rfl rfl ?_
                refine zv_shlw hB zd143_100 ?_
                refine zv_orw hB zd143_101 ?_
                have hw : (zi_or r10 (zi_shl 1 x4)) = o := zi_rk (Option.some.inj h) hK
                subst hw
                exact hret _ _ _ _ _ zd143_102 (by trivial) ⟨rfl, rfl, rfl⟩
  unfold zm_Chooser_leastCover at h
  refine zv_ild hB zd143_0 rfl rfl ?_
  refine zv_zgt hB zd143_1 rfl (fun hc1 => ?_) (fun hc1 => ?_)
  · rw [if_pos hc1] at h
    refine zv_con hB zd143_14 rfl ?_
    refine zv_ist hB zd143_15 rfl rfl rfl ?_
    obtain ⟨q12, hq12, h⟩ := zi_bind h
    refine l0 _ _ _ _ _ q12 hq12 ?_
    rcases q12 with e13 | w14
    · replace h := zi_sl h
      show good 109 [.inr 1000, .inr 1000, .inr 1000, .inr 1000, .inr 1000, .inr 1000, .inr 1000] [] [] [g0, g1]
      refine zv_con hB zd143_109 rfl ?_
      have hw := Option.some.inj h
      subst hw
      exact hret _ _ _ _ _ zd143_110 (by trivial) ⟨rfl, rfl, rfl⟩
    · exact Option.some.inj h
  · rw [if_neg (Int.not_lt.mpr hc1)] at h
    refine zv_ild hB zd143_4 rfl rfl ?_
    refine zv_zne hB zd143_5 rfl (fun hc15 => ?_) (fun hc15 => ?_)
    · rw [if_neg hc15] at h
      refine zv_con hB zd143_12 rfl ?_
      have hw := Option.some.inj h
      subst hw
      exact hret _ _ _ _ _ zd143_13 (by trivial) ⟨rfl, rfl, rfl⟩
    · rw [if_pos hc15] at h
      refine zv_con hB zd143_8 rfl ?_
      refine zv_goto hB zd143_9 rfl ?_
      have hw := Option.some.inj h
      subst hw
      exact hret _ _ _ _ _ zd143_13 (by trivial) ⟨rfl, rfl, rfl⟩
def zg_Chooser_leastCover : Nat → Nat → Int → Int → Int → (Int → Int) → (Int → Int) → Option (Int)
  | 0, _, _, _, _, _, _ => none
  | n + 1, _, x1, x2, x3, g0, g1 => zm_Chooser_leastCover (zg_Chooser_leastCover n) x1 x2 x3 g0 g1
theorem ztg_Chooser_leastCover : ∀ n : Nat, (∀ (x1 : Int) (x2 : Int) (x3 : Int) (g0 : (Int → Int)) (g1 : (Int → Int)) (o : Int), zg_Chooser_leastCover n 0 x1 x2 x3 g0 g1 = some o → zv_Fn z_TB z_cl z_KX zy_Chooser_leastCover zxm143 (0 + n, 60 * (0 + n)) [.inr 0, .inl x1, .inl x2, .inl x3] [] [g0, g1] (some o) [] [g0, g1]) := by
  intro n
  induction n with
  | zero => exact fun _ _ _ _ _ o h => absurd (show none = some o from h) (fun h => by cases h)
  | succ n ih =>
    have ih0 := ih
    exact fun _ _ _ _ _ o h => zts_Chooser_leastCover (rc := zg_Chooser_leastCover n) ih0 h
def zf_Chooser_leastCover (x1 : Int) (x2 : Int) (x3 : Int) (g0 : (Int → Int)) (g1 : (Int → Int)) : Option (Int) := zg_Chooser_leastCover 9 0 x1 x2 x3 g0 g1
theorem zt_Chooser_leastCover {x1 : Int} {x2 : Int} {x3 : Int} {g0 : (Int → Int)} {g1 : (Int → Int)} {o : Int} (h : zf_Chooser_leastCover x1 x2 x3 g0 g1 = some o) : zv_Fn z_TB z_cl z_KX zy_Chooser_leastCover zxm143 (9, 540) [.inr 0, .inl x1, .inl x2, .inl x3] [] [g0, g1] (some o) [] [g0, g1] := (ztg_Chooser_leastCover 9) _ _ _ _ _ o h
/-! Chooser_fewestNamed (I)I -/
-- names: 0 Chooser('arg', 0), 1 (0, 24)(0, 11, 1), 2 (0, 8)(0, 11, 0), 3 (0, 24)(0, 11, 2)
-- fields: ; arrays: g0 = 1, g1 = 2, g2 = 3; out: [('ret', None), ('g', 0), ('g', 2)]
abbrev zy_Chooser_fewestNamed : zNL := (4, [(0, 11)], [], [(0, 11, 1, 1), (0, 11, 0, 2), (0, 11, 2, 3)], [(1, 0, 24, 0), (2, 0, 8, 1), (3, 0, 24, 2)])
theorem zyw_Chooser_fewestNamed : zv_wf zy_Chooser_fewestNamed = true := by decide +kernel
theorem zye_Chooser_fewestNamed : zv_ek2 zy_Chooser_fewestNamed = true := by decide +kernel
def zf_Chooser_fewestNamed_l1_b (x4 : Int) (rec : Int → (Int → Int) → Option ((Int → Int))) (x5 : Int) (g0 : (Int → Int)) : Option ((Int → Int)) := if x5 < x4 then (cond (zi_ix x5 24) (cond (zi_ix x4 24) (if (g0 x5) = (g0 x4) then (rec (zi_w (x5 + 1)) (zv_up g0 x4 0)) else (rec (zi_w (x5 + 1)) g0)) none) none) else (some g0)
def zf_Chooser_fewestNamed_l1 (x4 : Int) : Nat → Int → (Int → Int) → Option ((Int → Int))
  | 0, _, _ => none
  | n + 1, x5, g0 => zf_Chooser_fewestNamed_l1_b x4 (zf_Chooser_fewestNamed_l1 x4 n) x5 g0
def zf_Chooser_fewestNamed_l0_b (x2 : Int) (g1 : (Int → Int)) (rec : Int → Int → (Int → Int) → (Int → Int) → Option (Int × (Int → Int) × (Int → Int))) (x3 : Int) (x4 : Int) (g0 : (Int → Int)) (g2 : (Int → Int)) : Option (Int × (Int → Int) × (Int → Int)) := if x4 < 24 then ((zf_Chooser_pairsApart x4 x2 g1).bind fun r3 => (cond (zi_ix x4 24) ((zf_Chooser_fewestNamed_l1 x4 zi_fu 0 (zv_up g0 x4 r3)).bind fun q9 => (rec (zi_or x3 (q9 x4)) (zi_w (x4 + 1)) q9 (zv_up g2 x4 (zi_or x3 (q9 x4))))) none)) else (some (x3, g0, g2))
def zf_Chooser_fewestNamed_l0 (x2 : Int) (g1 : (Int → Int)) : Nat → Int → Int → (Int → Int) → (Int → Int) → Option (Int × (Int → Int) × (Int → Int))
  | 0, _, _, _, _ => none
  | n + 1, x3, x4, g0, g2 => zf_Chooser_fewestNamed_l0_b x2 g1 (zf_Chooser_fewestNamed_l0 x2 g1 n) x3 x4 g0 g2
def zf_Chooser_fewestNamed_l2_b (x2 : Int) (x3 : Int) (g0 : (Int → Int)) (g2 : (Int → Int)) (rec : Int → Option (((Unit) ⊕ (Int × (Int → Int) × (Int → Int))))) (x5 : Int) : Option (((Unit) ⊕ (Int × (Int → Int) × (Int → Int)))) := if x5 < x2 then ((zf_Chooser_leastCover x5 24 x3 g0 g2).bind fun r14 => (if r14 = (-1) then (rec (zi_w (x5 + 1))) else (some (.inr (r14, g0, g2))))) else (some (.inl ()))
def zf_Chooser_fewestNamed_l2 (x2 : Int) (x3 : Int) (g0 : (Int → Int)) (g2 : (Int → Int)) : Nat → Int → Option (((Unit) ⊕ (Int × (Int → Int) × (Int → Int))))
  | 0, _ => none
  | n + 1, x5 => zf_Chooser_fewestNamed_l2_b x2 x3 g0 g2 (zf_Chooser_fewestNamed_l2 x2 x3 g0 g2 n) x5
def zf_Chooser_fewestNamed (x1 : Int) (g0 : (Int → Int)) (g1 : (Int → Int)) (g2 : (Int → Int)) : Option (Int × (Int → Int) × (Int → Int)) := (zf_Math_min x1 8).bind fun r1 => ((zf_Chooser_fewestNamed_l0 r1 g1 zi_fu 0 0 g0 g2).bind fun q10 => ((zf_Integer_bitCount q10.1).bind fun r11 => (if r11 = (zi_div (zi_w (r1 * (zi_w (r1 - 1)))) 2) then ((zf_Chooser_fewestNamed_l2 r1 q10.1 q10.2.1 q10.2.2 zi_fu 1).bind fun q16 => Sum.elim (fun e17 => (some ((-1), q10.2.1, q10.2.2))) (fun w18 => some w18) q16) else (some ((-1), q10.2.1, q10.2.2)))))
theorem zd141_0 : decode zxm141.2.1 0 = .ok (.iload_n 1, 1) := by decide +kernel
theorem zd141_1 : decode zxm141.2.1 1 = .ok (.bipush 8, 2) := by decide +kernel
theorem zd141_3 : decode zxm141.2.1 3 = .ok (.invokestatic 33, 3) := by decide +kernel
theorem zd141_6 : decode zxm141.2.1 6 = .ok (.istore_n 2, 1) := by decide +kernel
theorem zd141_7 : decode zxm141.2.1 7 = .ok (.iconst 0, 1) := by decide +kernel
theorem zd141_8 : decode zxm141.2.1 8 = .ok (.istore_n 3, 1) := by decide +kernel
theorem zd141_9 : decode zxm141.2.1 9 = .ok (.iconst 0, 1) := by decide +kernel
theorem zd141_10 : decode zxm141.2.1 10 = .ok (.istore 4, 2) := by decide +kernel
theorem zd141_12 : decode zxm141.2.1 12 = .ok (.iload 4, 2) := by decide +kernel
theorem zd141_14 : decode zxm141.2.1 14 = .ok (.bipush 24, 2) := by decide +kernel
theorem zd141_16 : decode zxm141.2.1 16 = .ok (.if_icmp .ge 82, 3) := by decide +kernel
theorem zd141_19 : decode zxm141.2.1 19 = .ok (.aload_n 0, 1) := by decide +kernel
theorem zd141_20 : decode zxm141.2.1 20 = .ok (.getfield 15, 3) := by decide +kernel
theorem zd141_23 : decode zxm141.2.1 23 = .ok (.iload 4, 2) := by decide +kernel
theorem zd141_25 : decode zxm141.2.1 25 = .ok (.aload_n 0, 1) := by decide +kernel
theorem zd141_26 : decode zxm141.2.1 26 = .ok (.iload 4, 2) := by decide +kernel
theorem zd141_28 : decode zxm141.2.1 28 = .ok (.iload_n 2, 1) := by decide +kernel
theorem zd141_29 : decode zxm141.2.1 29 = .ok (.invokevirtual 39, 3) := by decide +kernel
theorem zd141_32 : decode zxm141.2.1 32 = .ok (.iastore, 1) := by decide +kernel
theorem zd141_33 : decode zxm141.2.1 33 = .ok (.iconst 0, 1) := by decide +kernel
theorem zd141_34 : decode zxm141.2.1 34 = .ok (.istore 5, 2) := by decide +kernel
theorem zd141_36 : decode zxm141.2.1 36 = .ok (.iload 5, 2) := by decide +kernel
theorem zd141_38 : decode zxm141.2.1 38 = .ok (.iload 4, 2) := by decide +kernel
theorem zd141_40 : decode zxm141.2.1 40 = .ok (.if_icmp .ge 34, 3) := by decide +kernel
theorem zd141_43 : decode zxm141.2.1 43 = .ok (.aload_n 0, 1) := by decide +kernel
theorem zd141_44 : decode zxm141.2.1 44 = .ok (.getfield 15, 3) := by decide +kernel
theorem zd141_47 : decode zxm141.2.1 47 = .ok (.iload 5, 2) := by decide +kernel
theorem zd141_49 : decode zxm141.2.1 49 = .ok (.iaload, 1) := by decide +kernel
theorem zd141_50 : decode zxm141.2.1 50 = .ok (.aload_n 0, 1) := by decide +kernel
theorem zd141_51 : decode zxm141.2.1 51 = .ok (.getfield 15, 3) := by decide +kernel
theorem zd141_54 : decode zxm141.2.1 54 = .ok (.iload 4, 2) := by decide +kernel
theorem zd141_56 : decode zxm141.2.1 56 = .ok (.iaload, 1) := by decide +kernel
theorem zd141_57 : decode zxm141.2.1 57 = .ok (.if_icmp .ne 11, 3) := by decide +kernel
theorem zd141_60 : decode zxm141.2.1 60 = .ok (.aload_n 0, 1) := by decide +kernel
theorem zd141_61 : decode zxm141.2.1 61 = .ok (.getfield 15, 3) := by decide +kernel
theorem zd141_64 : decode zxm141.2.1 64 = .ok (.iload 4, 2) := by decide +kernel
theorem zd141_66 : decode zxm141.2.1 66 = .ok (.iconst 0, 1) := by decide +kernel
theorem zd141_67 : decode zxm141.2.1 67 = .ok (.iastore, 1) := by decide +kernel
theorem zd141_68 : decode zxm141.2.1 68 = .ok (.iinc 5 1, 3) := by decide +kernel
theorem zd141_71 : decode zxm141.2.1 71 = .ok (.goto (-35), 3) := by decide +kernel
theorem zd141_74 : decode zxm141.2.1 74 = .ok (.iload_n 3, 1) := by decide +kernel
theorem zd141_75 : decode zxm141.2.1 75 = .ok (.aload_n 0, 1) := by decide +kernel
theorem zd141_76 : decode zxm141.2.1 76 = .ok (.getfield 15, 3) := by decide +kernel
theorem zd141_79 : decode zxm141.2.1 79 = .ok (.iload 4, 2) := by decide +kernel
theorem zd141_81 : decode zxm141.2.1 81 = .ok (.iaload, 1) := by decide +kernel
theorem zd141_82 : decode zxm141.2.1 82 = .ok (.ior, 1) := by decide +kernel
theorem zd141_83 : decode zxm141.2.1 83 = .ok (.istore_n 3, 1) := by decide +kernel
theorem zd141_84 : decode zxm141.2.1 84 = .ok (.aload_n 0, 1) := by decide +kernel
theorem zd141_85 : decode zxm141.2.1 85 = .ok (.getfield 18, 3) := by decide +kernel
theorem zd141_88 : decode zxm141.2.1 88 = .ok (.iload 4, 2) := by decide +kernel
theorem zd141_90 : decode zxm141.2.1 90 = .ok (.iload_n 3, 1) := by decide +kernel
theorem zd141_91 : decode zxm141.2.1 91 = .ok (.iastore, 1) := by decide +kernel
theorem zd141_92 : decode zxm141.2.1 92 = .ok (.iinc 4 1, 3) := by decide +kernel
theorem zd141_95 : decode zxm141.2.1 95 = .ok (.goto (-83), 3) := by decide +kernel
theorem zd141_98 : decode zxm141.2.1 98 = .ok (.iload_n 2, 1) := by decide +kernel
theorem zd141_99 : decode zxm141.2.1 99 = .ok (.iload_n 2, 1) := by decide +kernel
theorem zd141_100 : decode zxm141.2.1 100 = .ok (.iconst 1, 1) := by decide +kernel
theorem zd141_101 : decode zxm141.2.1 101 = .ok (.isub, 1) := by decide +kernel
theorem zd141_102 : decode zxm141.2.1 102 = .ok (.imul, 1) := by decide +kernel
theorem zd141_103 : decode zxm141.2.1 103 = .ok (.iconst 2, 1) := by decide +kernel
theorem zd141_104 : decode zxm141.2.1 104 = .ok (.idiv, 1) := by decide +kernel
theorem zd141_105 : decode zxm141.2.1 105 = .ok (.istore 4, 2) := by decide +kernel
theorem zd141_107 : decode zxm141.2.1 107 = .ok (.iload_n 3, 1) := by decide +kernel
theorem zd141_108 : decode zxm141.2.1 108 = .ok (.invokestatic 42, 3) := by decide +kernel
theorem zd141_111 : decode zxm141.2.1 111 = .ok (.iload 4, 2) := by decide +kernel
theorem zd141_113 : decode zxm141.2.1 113 = .ok (.if_icmp .eq 5, 3) := by decide +kernel
theorem zd141_116 : decode zxm141.2.1 116 = .ok (.iconst (-1), 1) := by decide +kernel
theorem zd141_117 : decode zxm141.2.1 117 = .ok (.ireturn, 1) := by decide +kernel
theorem zd141_118 : decode zxm141.2.1 118 = .ok (.iconst 1, 1) := by decide +kernel
theorem zd141_119 : decode zxm141.2.1 119 = .ok (.istore 5, 2) := by decide +kernel
theorem zd141_121 : decode zxm141.2.1 121 = .ok (.iload 5, 2) := by decide +kernel
theorem zd141_123 : decode zxm141.2.1 123 = .ok (.iload_n 2, 1) := by decide +kernel
theorem zd141_124 : decode zxm141.2.1 124 = .ok (.if_icmp .ge 29, 3) := by decide +kernel
theorem zd141_127 : decode zxm141.2.1 127 = .ok (.aload_n 0, 1) := by decide +kernel
theorem zd141_128 : decode zxm141.2.1 128 = .ok (.iload 5, 2) := by decide +kernel
theorem zd141_130 : decode zxm141.2.1 130 = .ok (.bipush 24, 2) := by decide +kernel
theorem zd141_132 : decode zxm141.2.1 132 = .ok (.iload_n 3, 1) := by decide +kernel
theorem zd141_133 : decode zxm141.2.1 133 = .ok (.invokevirtual 48, 3) := by decide +kernel
theorem zd141_136 : decode zxm141.2.1 136 = .ok (.istore 6, 2) := by decide +kernel
theorem zd141_138 : decode zxm141.2.1 138 = .ok (.iload 6, 2) := by decide +kernel
theorem zd141_140 : decode zxm141.2.1 140 = .ok (.iconst (-1), 1) := by decide +kernel
theorem zd141_141 : decode zxm141.2.1 141 = .ok (.if_icmp .eq 6, 3) := by decide +kernel
theorem zd141_144 : decode zxm141.2.1 144 = .ok (.iload 6, 2) := by decide +kernel
theorem zd141_146 : decode zxm141.2.1 146 = .ok (.ireturn, 1) := by decide +kernel
theorem zd141_147 : decode zxm141.2.1 147 = .ok (.iinc 5 1, 3) := by decide +kernel
theorem zd141_150 : decode zxm141.2.1 150 = .ok (.goto (-29), 3) := by decide +kernel
theorem zd141_153 : decode zxm141.2.1 153 = .ok (.iconst (-1), 1) := by decide +kernel
theorem zd141_154 : decode zxm141.2.1 154 = .ok (.ireturn, 1) := by decide +kernel
theorem zt_Chooser_fewestNamed {x1 : Int} {g0 : (Int → Int)} {g1 : (Int → Int)} {g2 : (Int → Int)} {o : Int × (Int → Int) × (Int → Int)} (h : zf_Chooser_fewestNamed x1 g0 g1 g2 = some o) : zv_Fn z_TB z_cl z_KX zy_Chooser_fewestNamed zxm141 (10, 600) [.inr 0, .inl x1] [] [g0, g1, g2] (some o.1) [] [o.2.1, g1, o.2.2] := zv_meth (K := (z_KF1, z_KC1, z_KL1, z_KT1, [], [], [], none)) (FT := z_FT) (MT := z_MT) (n := 2) zxp141 (z_ks1 _ (fun _ h => List.mem_cons_of_mem _ h) _ _ _ _ (fun j r h _ => by cases h)) (fun _ _ => zs_KX_p) zyw_Chooser_fewestNamed (fun va F G h => by obtain ⟨rfl, _⟩ := h; rfl) (fun va F G h => by obtain ⟨rfl, _⟩ := h; rfl) rfl fun good va F G hB hret hvret hP => by
  obtain ⟨rfl, rfl, rfl⟩ := hP
  have l1 : ∀ (n : Nat) (x2 : Int) (x3 : Int) (x4 : Int) (x5 : Int) (g0 : (Int → Int)) (g2 : (Int → Int)) (q : (Int → Int)), zf_Chooser_fewestNamed_l1 x4 n x5 g0 = some q → (good 74 [.inr 0, .inr 1000, .inl x2, .inl x3, .inl x4, .inr 1000, .inr 1000] [] [] [q, g1, g2]) → good 36 [.inr 0, .inr 1000, .inl x2, .inl x3, .inl x4, .inl x5, .inr 1000] [] [] [g0, g1, g2] := by
    intro n
    induction n with
    | zero => intro x2 x3 x4 x5 g0 g2 q h; exact absurd (show none = some q from h) (fun h => by cases h)
    | succ n ih =>
      intro x2 x3 x4 x5 g0 g2 q h hK
      replace h : zf_Chooser_fewestNamed_l1_b x4 (zf_Chooser_fewestNamed_l1 x4 n) x5 g0 = some q := h
      unfold zf_Chooser_fewestNamed_l1_b at h
      refine zv_ild hB zd141_36 rfl rfl ?_
      refine zv_ild hB zd141_38 rfl rfl ?_
      refine zv_cge hB zd141_40 rfl (fun hc5 => ?_) (fun hc5 => ?_)
      · rw [if_neg (Int.not_lt.mpr hc5)] at h
        have hq := Option.some.inj h
        subst hq
        refine zv_wk hB (L' := [.inr 0, .inr 1000, .inl x2, .inl x3, .inl x4, .inr 1000, .inr 1000]) (F' := []) ⟨fun _ => rfl, fun (h : zv_is (.inr 1000)) => (Nat.lt_irrefl 1000 h).elim, fun _ => rfl, fun _ => rfl, fun _ => rfl, fun (h : zv_is (.inr 1000)) => (Nat.lt_irrefl 1000 h).elim, fun (h : zv_is (.inr 1000)) => (Nat.lt_irrefl 1000 h).elim, trivial⟩ trivial ?_
        exact hK
      · rw [if_pos hc5] at h
        refine zv_ald hB zd141_43 rfl rfl rfl ?_
        refine zv_getr hB zd141_44 rfl ?_
        refine zv_ild hB zd141_47 rfl rfl ?_
        obtain ⟨c6, h⟩ := zi_if h
        refine zv_iald hB zd141_49 rfl rfl (zi_ix_ok c6).1 (zi_ix_ok c6).2 (fun _ _ => ?_)
        refine zv_ald hB zd141_50 rfl rfl rfl ?_
        refine zv_getr hB zd141_51 rfl ?_
        refine zv_ild hB zd141_54 rfl rfl ?_
        obtain ⟨c7, h⟩ := zi_if h
        refine zv_iald hB zd141_56 rfl rfl (zi_ix_ok c7).1 (zi_ix_ok c7).2 (fun _ _ => ?_)
        refine zv_cne hB zd141_57 rfl (fun hc8 => ?_) (fun hc8 => ?_)
        · rw [if_neg hc8] at h
          refine zv_iincw hB zd141_68 rfl rfl ?_
          refine zv_goto hB zd141_71 rfl ?_
          exact ih _ _ _ _ _ _ q h hK
        · rw [if_pos hc8] at h
          refine zv_ald hB zd141_60 rfl rfl rfl ?_
          refine zv_getr hB zd141_61 rfl ?_
          refine zv_ild hB zd141_64 rfl rfl ?_
          refine zv_con hB zd141_66 rfl ?_
          refine zv_iast hB zd141_67 rfl rfl (zi_ix_ok c7).1 (zi_ix_ok c7).2 ?_
          refine zv_iincw hB zd141_68 rfl rfl ?_
          refine zv_goto hB zd141_71 rfl ?_
          exact ih _ _ _ _ _ _ q h hK
  have l0 : ∀ (n : Nat) (x2 : Int) (x3 : Int) (x4 : Int) (g0 : (Int → Int)) (g2 : (Int → Int)) (q : Int × (Int → Int) × (Int → Int)), zf_Chooser_fewestNamed_l0 x2 g1 n x3 x4 g0 g2 = some q → (good 98 [.inr 0, .inr 1000, .inl x2, .inl q.1, .inr 1000, .inr 1000, .inr 1000] [] [] [q.2.1, g1, q.2.2]) → good 12 [.inr 0, .inr 1000, .inl x2, .inl x3, .inl x4, .inr 1000, .inr 1000] [] [] [g0, g1, g2] := by
    intro n
    induction n with
    | zero => intro x2 x3 x4 g0 g2 q h; exact absurd (show none = some q from h) (fun h => by cases h)
    | succ n ih =>
      intro x2 x3 x4 g0 g2 q h hK
      replace h : zf_Chooser_fewestNamed_l0_b x2 g1 (zf_Chooser_fewestNamed_l0 x2 g1 n) x3 x4 g0 g2 = some q := h
      unfold zf_Chooser_fewestNamed_l0_b at h
      refine zv_ild hB zd141_12 rfl rfl ?_
      refine zv_con hB zd141_14 rfl ?_
      refine zv_cge hB zd141_16 rfl (fun hc2 => ?_) (fun hc2 => ?_)
      · rw [if_neg (Int.not_lt.mpr hc2)] at h
        have hq := Option.some.inj h
        subst hq
        refine zv_wk hB (L' := [.inr 0, .inr 1000, .inl x2, .inl x3, .inr 1000, .inr 1000, .inr 1000]) (F' := []) ⟨fun _ => rfl, fun (h : zv_is (.inr 1000)) => (Nat.lt_irrefl 1000 h).elim, fun _ => rfl, fun _ => rfl, fun (h : zv_is (.inr 1000)) => (Nat.lt_irrefl 1000 h).elim, fun (h : zv_is (.inr 1000)) => (Nat.lt_irrefl 1000 h).elim, fun (h : zv_is (.inr 1000)) => (Nat.lt_irrefl 1000 h).elim, trivial⟩ trivial ?_
        exact hK
      · rw [if_pos hc2] at h
        refine zv_ald hB zd141_19 rfl rfl rfl ?_
        refine zv_getr hB zd141_20 rfl ?_
        refine zv_ild hB zd141_23 rfl rfl ?_
        refine zv_ald hB zd141_25 rfl rfl rfl ?_
        refine zv_ild hB zd141_26 rfl rfl ?_
        refine zv_ild hB zd141_28 rfl rfl ?_
        obtain ⟨r3, hr3, h⟩ := zi_bind h
        refine zv_cv hB (zv_emq (va2 := [.inr 0, .inl x4, .inl x2]) (F := []) (F' := []) (G := [g0, g1, g2]) (G' := [g0, g1, g2]) (ρ := [0, 2]) (φ := []) (ψ := [1]) [] [none, some 0, none] zyw_Chooser_pairsApart zyw_Chooser_fewestNamed zye_Chooser_fewestNamed (by decide +kernel) (zt_Chooser_pairsApart hr3) trivial ⟨rfl, trivial⟩ rfl rfl rfl rfl rfl rfl rfl) zd141_29 zxt142 rfl (by decide) (by decide) rfl ?_
        obtain ⟨c4, h⟩ := zi_if h
        refine zv_iast hB zd141_32 rfl rfl (zi_ix_ok c4).1 (zi_ix_ok c4).2 ?_
        refine zv_con hB zd141_33 rfl ?_
        refine zv_ist hB zd141_34 rfl rfl rfl ?_
        obtain ⟨q9, hq9, h⟩ := zi_bind h
        refine l1 _ _ _ _ _ _ _ q9 hq9 ?_
        show good 74 [.inr 0, .inr 1000, .inl x2, .inl x3, .inl x4, .inr 1000, .inr 1000] [] [] [q9, g1, g2]
        refine zv_ild hB zd141_74 rfl rfl ?_
        refine zv_ald hB zd141_75 rfl rfl rfl ?_
        refine zv_getr hB zd141_76 rfl ?_
        refine zv_ild hB zd141_79 rfl rfl ?_
        refine zv_iald hB zd141_81 rfl rfl (zi_ix_ok c4).1 (zi_ix_ok c4).2 (fun _ _ => ?_)
        refine zv_orw hB zd141_82 ?_
        refine zv_ist hB zd141_83 rfl rfl rfl ?_
        refine zv_ald hB zd141_84 rfl rfl rfl ?_
        refine zv_getr hB zd141_85 rfl ?_
        refine zv_ild hB zd141_88 rfl rfl ?_
        refine zv_ild hB zd141_90 rfl rfl ?_
        refine zv_iast hB zd141_91 rfl rfl (zi_ix_ok c4).1 (zi_ix_ok c4).2 ?_
        refine zv_iincw hB zd141_92 rfl rfl ?_
        refine zv_goto hB zd141_95 rfl ?_
        exact ih _ _ _ _ _ q h hK
  have l2 : ∀ (n : Nat) (x2 : Int) (x3 : Int) (x5 : Int) (g0 : (Int → Int)) (g2 : (Int → Int)) (q : ((Unit) ⊕ (Int × (Int → Int) × (Int → Int)))), zf_Chooser_fewestNamed_l2 x2 x3 g0 g2 n x5 = some q → (Sum.elim (fun e : Unit => good 153 [.inr 1000, .inr 1000, .inr 1000, .inr 1000, .inr 1000, .inr 1000, .inr 1000] [] [] [g0, g1, g2]) (fun w : Int × (Int → Int) × (Int → Int) => w = o) q) → good 121 [.inr 0, .inr 1000, .inl x2, .inl x3, .inr 1000, .inl x5, .inr 1000] [] [] [g0, g1, g2] := by
    intro n
    induction n with
    | zero => intro x2 x3 x5 g0 g2 q h; exact absurd (show none = some q from h) (fun h => by cases h)
    | succ n ih =>
      intro x2 x3 x5 g0 g2 q h hK
      replace h : zf_Chooser_fewestNamed_l2_b x2 x3 g0 g2 (zf_Chooser_fewestNamed_l2 x2 x3 g0 g2 n) x5 = some q := h
      unfold zf_Chooser_fewestNamed_l2_b at h
      refine zv_ild hB zd141_121 rfl rfl ?_
      refine zv_ild hB zd141_123 rfl rfl ?_
      refine zv_cge hB zd141_124 rfl (fun hc13 => ?_) (fun hc13 => ?_)
      · rw [if_neg (Int.not_lt.mpr hc13)] at h
        have hq := Option.some.inj h
        subst hq
        refine zv_wk hB (L' := [.inr 1000, .inr 1000, .inr 1000, .inr 1000, .inr 1000, .inr 1000, .inr 1000]) (F' := []) ⟨fun (h : zv_is (.inr 1000)) => (Nat.lt_irrefl 1000 h).elim, fun (h : zv_is (.inr 1000)) => (Nat.lt_irrefl 1000 h).elim, fun (h : zv_is (.inr 1000)) => (Nat.lt_irrefl 1000 h).elim, fun (h : zv_is (.inr 1000)) => (Nat.lt_irrefl 1000 h).elim, fun (h : zv_is (.inr 1000)) => (Nat.lt_irrefl 1000 h).elim, fun (h : zv_is (.inr 1000)) => (Nat.lt_irrefl 1000 h).elim, fun (h : zv_is (.inr 1000)) => (Nat.lt_irrefl 1000 h).elim, trivial⟩ trivial ?_
        exact hK
      · rw [if_pos hc13] at h
        refine zv_ald hB zd141_127 rfl rfl rfl ?_
        refine zv_ild hB zd141_128 rfl rfl ?_
        refine zv_con hB zd141_130 rfl ?_
        refine zv_ild hB zd141_132 rfl rfl ?_
        obtain ⟨r14, hr14, h⟩ := zi_bind h
        refine zv_cv hB (zv_emq (va2 := [.inr 0, .inl x5, .inl 24, .inl x3]) (F := []) (F' := []) (G := [g0, g1, g2]) (G' := [g0, g1, g2]) (ρ := [0, 1, 3]) (φ := []) (ψ := [0, 2]) [] [some 0, none, some 1] zyw_Chooser_leastCover zyw_Chooser_fewestNamed zye_Chooser_fewestNamed (by decide +kernel) (zt_Chooser_leastCover hr14) trivial ⟨rfl, rfl, trivial⟩ rfl rfl rfl rfl rfl rfl rfl) zd141_133 zxt143 rfl (by decide) (by decide) rfl ?_
        refine zv_ist hB zd141_136 rfl rfl rfl ?_
        refine zv_ild hB zd141_138 rfl rfl ?_
        refine zv_con hB zd141_140 rfl ?_
        refine zv_ceq hB zd141_141 rfl (fun hc15 => ?_) (fun hc15 => ?_)
        · rw [if_pos hc15] at h
          refine zv_iincw hB zd141_147 rfl rfl ?_
          refine zv_goto hB zd141_150 rfl ?_
          refine zv_wk hB (L' := [.inr 0, .inr 1000, .inl x2, .inl x3, .inr 1000, .inl (zi_w (x5 + 1)), .inr 1000]) (F' := []) ⟨fun _ => rfl, fun (h : zv_is (.inr 1000)) => (Nat.lt_irrefl 1000 h).elim, fun _ => rfl, fun _ => rfl, fun (h : zv_is (.inr 1000)) => (Nat.lt_irrefl 1000 h).elim, fun _ => rfl, fun (h : zv_is (.inr 1000)) => (Nat.lt_irrefl 1000 h).elim, trivial⟩ trivial ?_
          exact ih _ _ _ _ _ q h hK
        · rw [if_neg hc15] at h
          refine zv_ild hB zd141_144 rfl rfl ?_
          have hw : (r14, g0, g2) = o := zi_rk (Option.some.inj h) hK
          subst hw
          exact hret _ _ _ _ _ zd141_146 (by trivial) ⟨rfl, rfl, rfl⟩
  unfold zf_Chooser_fewestNamed at h
  refine zv_ild hB zd141_0 rfl rfl ?_
  refine zv_con hB zd141_1 rfl ?_
  obtain ⟨r1, hr1, h⟩ := zi_bind h
  refine zv_cs hB (zv_emq (va2 := [.inl x1, .inl 8]) (F := []) (F' := []) (G := [g0, g1, g2]) (G' := [g0, g1, g2]) (ρ := []) (φ := []) (ψ := []) [] [none, none, none] zyw_Math_min zyw_Chooser_fewestNamed zye_Chooser_fewestNamed (by decide +kernel) (zt_Math_min hr1) trivial trivial rfl rfl rfl rfl rfl rfl rfl) zd141_3 zxt37 rfl (by decide) (by decide) rfl ?_
  refine zv_ist hB zd141_6 rfl rfl rfl ?_
  refine zv_con hB zd141_7 rfl ?_
  refine zv_ist hB zd141_8 rfl rfl rfl ?_
  refine zv_con hB zd141_9 rfl ?_
  refine zv_ist hB zd141_10 rfl rfl rfl ?_
  obtain ⟨q10, hq10, h⟩ := zi_bind h
  refine zv_wk hB (L' := [.inr 0, .inr 1000, .inl r1, .inl 0, .inl 0, .inr 1000, .inr 1000]) (F' := []) ⟨fun _ => rfl, fun (h : zv_is (.inr 1000)) => (Nat.lt_irrefl 1000 h).elim, fun _ => rfl, fun _ => rfl, fun _ => rfl, fun (h : zv_is (.inr 1000)) => (Nat.lt_irrefl 1000 h).elim, fun (h : zv_is (.inr 1000)) => (Nat.lt_irrefl 1000 h).elim, trivial⟩ trivial ?_
  refine l0 _ _ _ _ _ _ q10 hq10 ?_
  show good 98 [.inr 0, .inr 1000, .inl r1, .inl q10.1, .inr 1000, .inr 1000, .inr 1000] [] [] [q10.2.1, g1, q10.2.2]
  refine zv_ild hB zd141_98 rfl rfl ?_
  refine zv_ild hB zd141_99 rfl rfl ?_
  refine zv_con hB zd141_100 rfl ?_
  refine zv_subw hB zd141_101 ?_
  refine zv_mulw hB zd141_102 ?_
  refine zv_con hB zd141_103 rfl ?_
  refine zv_divw hB zd141_104 (by decide) ?_
  refine zv_ist hB zd141_105 rfl rfl rfl ?_
  refine zv_ild hB zd141_107 rfl rfl ?_
  obtain ⟨r11, hr11, h⟩ := zi_bind h
  refine zv_cs hB (zv_emq (va2 := [.inl q10.1]) (F := []) (F' := []) (G := [q10.2.1, g1, q10.2.2]) (G' := [q10.2.1, g1, q10.2.2]) (ρ := []) (φ := []) (ψ := []) [] [none, none, none] zyw_Integer_bitCount zyw_Chooser_fewestNamed zye_Chooser_fewestNamed (by decide +kernel) (zt_Integer_bitCount hr11) trivial trivial rfl rfl rfl rfl rfl rfl rfl) zd141_108 zxt102 rfl (by decide) (by decide) rfl ?_
  refine zv_ild hB zd141_111 rfl rfl ?_
  refine zv_ceq hB zd141_113 rfl (fun hc12 => ?_) (fun hc12 => ?_)
  · rw [if_pos hc12] at h
    refine zv_con hB zd141_118 rfl ?_
    refine zv_ist hB zd141_119 rfl rfl rfl ?_
    obtain ⟨q16, hq16, h⟩ := zi_bind h
    refine zv_wk hB (L' := [.inr 0, .inr 1000, .inl r1, .inl q10.1, .inr 1000, .inl 1, .inr 1000]) (F' := []) ⟨fun _ => rfl, fun (h : zv_is (.inr 1000)) => (Nat.lt_irrefl 1000 h).elim, fun _ => rfl, fun _ => rfl, fun (h : zv_is (.inr 1000)) => (Nat.lt_irrefl 1000 h).elim, fun _ => rfl, fun (h : zv_is (.inr 1000)) => (Nat.lt_irrefl 1000 h).elim, trivial⟩ trivial ?_
    refine l2 _ _ _ _ _ _ q16 hq16 ?_
    rcases q16 with e17 | w18
    · replace h := zi_sl h
      show good 153 [.inr 1000, .inr 1000, .inr 1000, .inr 1000, .inr 1000, .inr 1000, .inr 1000] [] [] [q10.2.1, g1, q10.2.2]
      refine zv_con hB zd141_153 rfl ?_
      have hw := Option.some.inj h
      subst hw
      exact hret _ _ _ _ _ zd141_154 (by trivial) ⟨rfl, rfl, rfl⟩
    · exact Option.some.inj h
  · rw [if_neg hc12] at h
    refine zv_con hB zd141_116 rfl ?_
    have hw := Option.some.inj h
    subst hw
    exact hret _ _ _ _ _ zd141_117 (by trivial) ⟨rfl, rfl, rfl⟩
end
section
/-! Methods as functions, and that they do what these do. -/
/-! X_named (II)I -/
-- names: 0 StarTales('arg', 0), 1 Tape(0, 0, 6), 2 View(0, 0, 12), 3 Sky(0, 0, 0), 4 Law(0, 0, 7), 5 (0, 24)(2, 7, 8), 6 (0, 220)(1, 3, 0), 7 (0, 13)(4, 4, 12), 8 (0, 24)(3, 1, 1), 9 (0, 24)(3, 1, 2), 10 (0, 24)(3, 1, 3), 11 (0, 14)(4, 4, 3), 12 (0, 14)(4, 4, 5), 13 (0, 14)(4, 4, 6), 14 (0, 200)(4, 4, 0), 15 (0, 40)(4, 4, 13), 16 (0, 200)(4, 4, 1), 17 Chooser(0, 0, 17), 18 (0, 8)(17, 11, 0), 19 (0, 24)(17, 11, 1), 20 (0, 24)(17, 11, 2)
-- fields: f0 = 1.size_, f1 = 0.ruling_, f2 = 2.sky_, f3 = 2.law_, f4 = 2.starsAsked_, f5 = 2.x_, f6 = 2.y_, f7 = 3.hour_, f8 = 3.night_, f9 = 2.shown_, f10 = 3.told_, f11 = 3.sightColumns_, f12 = 3.sightRows_, f13 = 3.clouds_, f14 = 4.tellsSeen_, f15 = 2.starsHold_, f16 = 4.clauses_, f17 = 4.answer_, f18 = 4.seenByPlace_; arrays: g0 = 5, g1 = 6, g2 = 7, g3 = 8, g4 = 9, g5 = 10, g6 = 11, g7 = 12, g8 = 13, g9 = 14, g10 = 15, g11 = 16, g12 = 18, g13 = 19, g14 = 20; out: [('ret', None), ('f', 0), ('f', 4), ('f', 5), ('f', 6), ('f', 9), ('f', 15), ('f', 17), ('g', 0), ('g', 2), ('g', 10), ('g', 12), ('g', 13), ('g', 14)]
abbrev zy_X_named : zNL := (21, [(0, 0), (1, 3), (2, 7), (3, 1), (4, 4), (17, 11)], [(1, 3, 1, 0), (0, 0, 7, 1), (2, 7, 0, 2), (2, 7, 1, 3), (2, 7, 6, 4), (2, 7, 2, 5), (2, 7, 3, 6), (3, 1, 6, 7), (3, 1, 7, 8), (2, 7, 4, 9), (3, 1, 0, 10), (3, 1, 9, 11), (3, 1, 10, 12), (3, 1, 8, 13), (4, 4, 8, 14), (2, 7, 7, 15), (4, 4, 7, 16), (4, 4, 14, 17), (4, 4, 10, 18)], [(0, 0, 6, 1), (0, 0, 12, 2), (0, 0, 0, 3), (2, 7, 8, 5), (1, 3, 0, 6), (4, 4, 12, 7), (3, 1, 1, 8), (3, 1, 2, 9), (3, 1, 3, 10), (4, 4, 3, 11), (4, 4, 5, 12), (4, 4, 6, 13), (4, 4, 0, 14), (4, 4, 13, 15), (4, 4, 1, 16), (0, 0, 17, 17), (17, 11, 0, 18), (17, 11, 1, 19), (17, 11, 2, 20)], [(5, 0, 24, 0), (6, 0, 220, 1), (7, 0, 13, 2), (8, 0, 24, 3), (9, 0, 24, 4), (10, 0, 24, 5), (11, 0, 14, 6), (12, 0, 14, 7), (13, 0, 14, 8), (14, 0, 200, 9), (15, 0, 40, 10), (16, 0, 200, 11), (18, 0, 8, 12), (19, 0, 24, 13), (20, 0, 24, 14)])
theorem zyw_X_named : zv_wf zy_X_named = true := by decide +kernel
theorem zye_X_named : zv_ek2 zy_X_named = true := by decide +kernel
def zf_X_named_l0_b (x1 : Int) (f0 : Int) (f7 : Int) (f8 : Int) (f10 : Int) (f11 : Int) (f12 : Int) (f13 : Int) (f14 : Int) (f16 : Int) (f18 : Int) (g0 : (Int → Int)) (g1 : (Int → Int)) (g3 : (Int → Int)) (g4 : (Int → Int)) (g5 : (Int → Int)) (g6 : (Int → Int)) (g7 : (Int → Int)) (g8 : (Int → Int)) (g9 : (Int → Int)) (g11 : (Int → Int)) (g13 : (Int → Int)) (g14 : (Int → Int)) (rec : Int → Int → Int → Int → Int → Int → Int → (Int → Int) → (Int → Int) → (Int → Int) → Option (((Int × Int × Int × Int × Int × Int × (Int → Int) × (Int → Int) × (Int → Int)) ⊕ (Int × Int × Int × Int × Int × Int × Int × Int × (Int → Int) × (Int → Int) × (Int → Int) × (Int → Int) × (Int → Int) × (Int → Int))))) (x3 : Int) (f4 : Int) (f5 : Int) (f6 : Int) (f9 : Int) (f15 : Int) (f17 : Int) (g2 : (Int → Int)) (g10 : (Int → Int)) (g12 : (Int → Int)) : Option (((Int × Int × Int × Int × Int × Int × (Int → Int) × (Int → Int) × (Int → Int)) ⊕ (Int × Int × Int × Int × Int × Int × Int × Int × (Int → Int) × (Int → Int) × (Int → Int) × (Int → Int) × (Int → Int) × (Int → Int)))) := if x3 < x1 then ((zf_Tape_byteAt (zi_w (2 * x3)) g1).bind fun r9 => ((zf_Tape_byteAt (zi_w ((zi_w (2 * x3)) + 1)) g1).bind fun r10 => ((zf_X_isPlace r9 r10).bind fun r11 => (if r11 = 0 then (some (.inr ((-2), f0, f4, f5, f6, f9, f15, f17, g0, g2, g10, g12, g13, g14))) else ((zf_View_look r9 r10 f5 f6 f7 f8 f9 f10 f11 f12 f13 f14 f4 f15 f16 f17 f18 g2 g3 g4 g5 g6 g7 g8 g9 g10 g11).bind fun r13 => (cond (zi_ix x3 8) (rec (zi_w (x3 + 1)) r13.2.2.2.1 r13.1 r13.2.1 r13.2.2.1 r13.2.2.2.2.1 r13.2.2.2.2.2.1 r13.2.2.2.2.2.2.1 r13.2.2.2.2.2.2.2 (zv_up g12 x3 r13.2.2.1)) none)))))) else (some (.inl (f4, f5, f6, f9, f15, f17, g2, g10, g12)))
def zf_X_named_l0 (x1 : Int) (f0 : Int) (f7 : Int) (f8 : Int) (f10 : Int) (f11 : Int) (f12 : Int) (f13 : Int) (f14 : Int) (f16 : Int) (f18 : Int) (g0 : (Int → Int)) (g1 : (Int → Int)) (g3 : (Int → Int)) (g4 : (Int → Int)) (g5 : (Int → Int)) (g6 : (Int → Int)) (g7 : (Int → Int)) (g8 : (Int → Int)) (g9 : (Int → Int)) (g11 : (Int → Int)) (g13 : (Int → Int)) (g14 : (Int → Int)) : Nat → Int → Int → Int → Int → Int → Int → Int → (Int → Int) → (Int → Int) → (Int → Int) → Option (((Int × Int × Int × Int × Int × Int × (Int → Int) × (Int → Int) × (Int → Int)) ⊕ (Int × Int × Int × Int × Int × Int × Int × Int × (Int → Int) × (Int → Int) × (Int → Int) × (Int → Int) × (Int → Int) × (Int → Int))))
  | 0, _, _, _, _, _, _, _, _, _, _ => none
  | n + 1, x3, f4, f5, f6, f9, f15, f17, g2, g10, g12 => zf_X_named_l0_b x1 f0 f7 f8 f10 f11 f12 f13 f14 f16 f18 g0 g1 g3 g4 g5 g6 g7 g8 g9 g11 g13 g14 (zf_X_named_l0 x1 f0 f7 f8 f10 f11 f12 f13 f14 f16 f18 g0 g1 g3 g4 g5 g6 g7 g8 g9 g11 g13 g14 n) x3 f4 f5 f6 f9 f15 f17 g2 g10 g12
def zf_X_named (x1 : Int) (x2 : Int) (f0 : Int) (f4 : Int) (f5 : Int) (f6 : Int) (f7 : Int) (f8 : Int) (f9 : Int) (f10 : Int) (f11 : Int) (f12 : Int) (f13 : Int) (f14 : Int) (f15 : Int) (f16 : Int) (f17 : Int) (f18 : Int) (g0 : (Int → Int)) (g1 : (Int → Int)) (g2 : (Int → Int)) (g3 : (Int → Int)) (g4 : (Int → Int)) (g5 : (Int → Int)) (g6 : (Int → Int)) (g7 : (Int → Int)) (g8 : (Int → Int)) (g9 : (Int → Int)) (g10 : (Int → Int)) (g11 : (Int → Int)) (g12 : (Int → Int)) (g13 : (Int → Int)) (g14 : (Int → Int)) : Option (Int × Int × Int × Int × Int × Int × Int × Int × (Int → Int) × (Int → Int) × (Int → Int) × (Int → Int) × (Int → Int) × (Int → Int)) := (zf_X_isWithin x1 2 8).bind fun r1 => (if r1 = 0 then (some ((-1), f0, f4, f5, f6, f9, f15, f17, g0, g2, g10, g12, g13, g14)) else ((zf_X_isWithin x2 0 1).bind fun r3 => (if r3 = 0 then (some ((-1), f0, f4, f5, f6, f9, f15, f17, g0, g2, g10, g12, g13, g14)) else ((zf_Tape_take (zi_w (2 * x1)) f0).bind fun r5 => (if r5.1 = 0 then (some ((-1), r5.2, f4, f5, f6, f9, f15, f17, g0, g2, g10, g12, g13, g14)) else ((zf_View_open f4 g0).bind fun r7 => ((zf_X_named_l0 x1 r5.2 f7 f8 f10 f11 f12 f13 f14 f16 f18 r7.2 g1 g3 g4 g5 g6 g7 g8 g9 g11 g13 g14 zi_fu 0 r7.1 f5 f6 f9 f15 f17 g2 g10 g12).bind fun q15 => Sum.elim (fun e16 => ((zf_Chooser_fewestNamed x1 g13 e16.2.2.2.2.2.2.2.2 g14).bind fun r17 => (if r17.1 = (-1) then (some ((-2), r5.2, e16.1, e16.2.1, e16.2.2.1, e16.2.2.2.1, e16.2.2.2.2.1, e16.2.2.2.2.2.1, r7.2, e16.2.2.2.2.2.2.1, e16.2.2.2.2.2.2.2.1, e16.2.2.2.2.2.2.2.2, r17.2.1, r17.2.2)) else (if x2 = 0 then ((zf_Integer_bitCount r17.1).bind fun r20 => (some (r20, r5.2, e16.1, e16.2.1, e16.2.2.1, e16.2.2.2.1, e16.2.2.2.2.1, e16.2.2.2.2.2.1, r7.2, e16.2.2.2.2.2.2.1, e16.2.2.2.2.2.2.2.1, e16.2.2.2.2.2.2.2.2, r17.2.1, r17.2.2))) else (some (r17.1, r5.2, e16.1, e16.2.1, e16.2.2.1, e16.2.2.2.1, e16.2.2.2.2.1, e16.2.2.2.2.2.1, r7.2, e16.2.2.2.2.2.2.1, e16.2.2.2.2.2.2.2.1, e16.2.2.2.2.2.2.2.2, r17.2.1, r17.2.2)))))) (fun w21 => some w21) q15)))))))
theorem zd140_0 : decode zxm140.2.1 0 = .ok (.iload_n 1, 1) := by decide +kernel
theorem zd140_1 : decode zxm140.2.1 1 = .ok (.iconst 2, 1) := by decide +kernel
theorem zd140_2 : decode zxm140.2.1 2 = .ok (.bipush 8, 2) := by decide +kernel
theorem zd140_4 : decode zxm140.2.1 4 = .ok (.invokestatic 126, 3) := by decide +kernel
theorem zd140_7 : decode zxm140.2.1 7 = .ok (.ifCond .eq 25, 3) := by decide +kernel
theorem zd140_10 : decode zxm140.2.1 10 = .ok (.iload_n 2, 1) := by decide +kernel
theorem zd140_11 : decode zxm140.2.1 11 = .ok (.iconst 0, 1) := by decide +kernel
theorem zd140_12 : decode zxm140.2.1 12 = .ok (.iconst 1, 1) := by decide +kernel
theorem zd140_13 : decode zxm140.2.1 13 = .ok (.invokestatic 126, 3) := by decide +kernel
theorem zd140_16 : decode zxm140.2.1 16 = .ok (.ifCond .eq 16, 3) := by decide +kernel
theorem zd140_19 : decode zxm140.2.1 19 = .ok (.aload_n 0, 1) := by decide +kernel
theorem zd140_20 : decode zxm140.2.1 20 = .ok (.getfield 39, 3) := by decide +kernel
theorem zd140_23 : decode zxm140.2.1 23 = .ok (.iconst 2, 1) := by decide +kernel
theorem zd140_24 : decode zxm140.2.1 24 = .ok (.iload_n 1, 1) := by decide +kernel
theorem zd140_25 : decode zxm140.2.1 25 = .ok (.imul, 1) := by decide +kernel
theorem zd140_26 : decode zxm140.2.1 26 = .ok (.invokevirtual 197, 3) := by decide +kernel
theorem zd140_29 : decode zxm140.2.1 29 = .ok (.ifCond .ne 5, 3) := by decide +kernel
theorem zd140_32 : decode zxm140.2.1 32 = .ok (.iconst (-1), 1) := by decide +kernel
theorem zd140_33 : decode zxm140.2.1 33 = .ok (.ireturn, 1) := by decide +kernel
theorem zd140_34 : decode zxm140.2.1 34 = .ok (.aload_n 0, 1) := by decide +kernel
theorem zd140_35 : decode zxm140.2.1 35 = .ok (.getfield 81, 3) := by decide +kernel
theorem zd140_38 : decode zxm140.2.1 38 = .ok (.aload_n 0, 1) := by decide +kernel
theorem zd140_39 : decode zxm140.2.1 39 = .ok (.getfield 10, 3) := by decide +kernel
theorem zd140_42 : decode zxm140.2.1 42 = .ok (.aload_n 0, 1) := by decide +kernel
theorem zd140_43 : decode zxm140.2.1 43 = .ok (.getfield 46, 3) := by decide +kernel
theorem zd140_46 : decode zxm140.2.1 46 = .ok (.invokevirtual 211, 3) := by decide +kernel
theorem zd140_49 : decode zxm140.2.1 49 = .ok (.iconst 0, 1) := by decide +kernel
theorem zd140_50 : decode zxm140.2.1 50 = .ok (.istore_n 3, 1) := by decide +kernel
theorem zd140_51 : decode zxm140.2.1 51 = .ok (.iload_n 3, 1) := by decide +kernel
theorem zd140_52 : decode zxm140.2.1 52 = .ok (.iload_n 1, 1) := by decide +kernel
theorem zd140_53 : decode zxm140.2.1 53 = .ok (.if_icmp .ge 75, 3) := by decide +kernel
theorem zd140_56 : decode zxm140.2.1 56 = .ok (.aload_n 0, 1) := by decide +kernel
theorem zd140_57 : decode zxm140.2.1 57 = .ok (.getfield 39, 3) := by decide +kernel
theorem zd140_60 : decode zxm140.2.1 60 = .ok (.iconst 2, 1) := by decide +kernel
theorem zd140_61 : decode zxm140.2.1 61 = .ok (.iload_n 3, 1) := by decide +kernel
theorem zd140_62 : decode zxm140.2.1 62 = .ok (.imul, 1) := by decide +kernel
theorem zd140_63 : decode zxm140.2.1 63 = .ok (.invokevirtual 303, 3) := by decide +kernel
theorem zd140_66 : decode zxm140.2.1 66 = .ok (.istore 4, 2) := by decide +kernel
theorem zd140_68 : decode zxm140.2.1 68 = .ok (.aload_n 0, 1) := by decide +kernel
theorem zd140_69 : decode zxm140.2.1 69 = .ok (.getfield 39, 3) := by decide +kernel
theorem zd140_72 : decode zxm140.2.1 72 = .ok (.iconst 2, 1) := by decide +kernel
theorem zd140_73 : decode zxm140.2.1 73 = .ok (.iload_n 3, 1) := by decide +kernel
theorem zd140_74 : decode zxm140.2.1 74 = .ok (.imul, 1) := by decide +kernel
theorem zd140_75 : decode zxm140.2.1 75 = .ok (.iconst 1, 1) := by decide +kernel
theorem zd140_76 : decode zxm140.2.1 76 = .ok (.iadd, 1) := by decide +kernel
theorem zd140_77 : decode zxm140.2.1 77 = .ok (.invokevirtual 303, 3) := by decide +kernel
theorem zd140_80 : decode zxm140.2.1 80 = .ok (.istore 5, 2) := by decide +kernel
theorem zd140_82 : decode zxm140.2.1 82 = .ok (.iload 4, 2) := by decide +kernel
theorem zd140_84 : decode zxm140.2.1 84 = .ok (.iload 5, 2) := by decide +kernel
theorem zd140_86 : decode zxm140.2.1 86 = .ok (.invokestatic 130, 3) := by decide +kernel
theorem zd140_89 : decode zxm140.2.1 89 = .ok (.ifCond .ne 6, 3) := by decide +kernel
theorem zd140_92 : decode zxm140.2.1 92 = .ok (.bipush (-2), 2) := by decide +kernel
theorem zd140_94 : decode zxm140.2.1 94 = .ok (.ireturn, 1) := by decide +kernel
theorem zd140_95 : decode zxm140.2.1 95 = .ok (.aload_n 0, 1) := by decide +kernel
theorem zd140_96 : decode zxm140.2.1 96 = .ok (.getfield 81, 3) := by decide +kernel
theorem zd140_99 : decode zxm140.2.1 99 = .ok (.iload 4, 2) := by decide +kernel
theorem zd140_101 : decode zxm140.2.1 101 = .ok (.iload 5, 2) := by decide +kernel
theorem zd140_103 : decode zxm140.2.1 103 = .ok (.invokevirtual 214, 3) := by decide +kernel
theorem zd140_106 : decode zxm140.2.1 106 = .ok (.aload_n 0, 1) := by decide +kernel
theorem zd140_107 : decode zxm140.2.1 107 = .ok (.getfield 119, 3) := by decide +kernel
theorem zd140_110 : decode zxm140.2.1 110 = .ok (.getfield 306, 3) := by decide +kernel
theorem zd140_113 : decode zxm140.2.1 113 = .ok (.iload_n 3, 1) := by decide +kernel
theorem zd140_114 : decode zxm140.2.1 114 = .ok (.aload_n 0, 1) := by decide +kernel
theorem zd140_115 : decode zxm140.2.1 115 = .ok (.getfield 81, 3) := by decide +kernel
theorem zd140_118 : decode zxm140.2.1 118 = .ok (.getfield 218, 3) := by decide +kernel
theorem zd140_121 : decode zxm140.2.1 121 = .ok (.iastore, 1) := by decide +kernel
theorem zd140_122 : decode zxm140.2.1 122 = .ok (.iinc 3 1, 3) := by decide +kernel
theorem zd140_125 : decode zxm140.2.1 125 = .ok (.goto (-74), 3) := by decide +kernel
theorem zd140_128 : decode zxm140.2.1 128 = .ok (.aload_n 0, 1) := by decide +kernel
theorem zd140_129 : decode zxm140.2.1 129 = .ok (.getfield 119, 3) := by decide +kernel
theorem zd140_132 : decode zxm140.2.1 132 = .ok (.iload_n 1, 1) := by decide +kernel
theorem zd140_133 : decode zxm140.2.1 133 = .ok (.invokevirtual 308, 3) := by decide +kernel
theorem zd140_136 : decode zxm140.2.1 136 = .ok (.istore_n 3, 1) := by decide +kernel
theorem zd140_137 : decode zxm140.2.1 137 = .ok (.iload_n 3, 1) := by decide +kernel
theorem zd140_138 : decode zxm140.2.1 138 = .ok (.iconst (-1), 1) := by decide +kernel
theorem zd140_139 : decode zxm140.2.1 139 = .ok (.if_icmp .ne 6, 3) := by decide +kernel
theorem zd140_142 : decode zxm140.2.1 142 = .ok (.bipush (-2), 2) := by decide +kernel
theorem zd140_144 : decode zxm140.2.1 144 = .ok (.ireturn, 1) := by decide +kernel
theorem zd140_145 : decode zxm140.2.1 145 = .ok (.iload_n 2, 1) := by decide +kernel
theorem zd140_146 : decode zxm140.2.1 146 = .ok (.ifCond .ne 10, 3) := by decide +kernel
theorem zd140_149 : decode zxm140.2.1 149 = .ok (.iload_n 3, 1) := by decide +kernel
theorem zd140_150 : decode zxm140.2.1 150 = .ok (.invokestatic 235, 3) := by decide +kernel
theorem zd140_153 : decode zxm140.2.1 153 = .ok (.goto 4, 3) := by decide +kernel
theorem zd140_156 : decode zxm140.2.1 156 = .ok (.iload_n 3, 1) := by decide +kernel
theorem zd140_157 : decode zxm140.2.1 157 = .ok (.ireturn, 1) := by decide +kernel
theorem zt_X_named {x1 : Int} {x2 : Int} {f0 : Int} {f4 : Int} {f5 : Int} {f6 : Int} {f7 : Int} {f8 : Int} {f9 : Int} {f10 : Int} {f11 : Int} {f12 : Int} {f13 : Int} {f14 : Int} {f15 : Int} {f16 : Int} {f17 : Int} {f18 : Int} {g0 : (Int → Int)} {g1 : (Int → Int)} {g2 : (Int → Int)} {g3 : (Int → Int)} {g4 : (Int → Int)} {g5 : (Int → Int)} {g6 : (Int → Int)} {g7 : (Int → Int)} {g8 : (Int → Int)} {g9 : (Int → Int)} {g10 : (Int → Int)} {g11 : (Int → Int)} {g12 : (Int → Int)} {g13 : (Int → Int)} {g14 : (Int → Int)} {o : Int × Int × Int × Int × Int × Int × Int × Int × (Int → Int) × (Int → Int) × (Int → Int) × (Int → Int) × (Int → Int) × (Int → Int)} (h : zf_X_named x1 x2 f0 f4 f5 f6 f7 f8 f9 f10 f11 f12 f13 f14 f15 f16 f17 f18 g0 g1 g2 g3 g4 g5 g6 g7 g8 g9 g10 g11 g12 g13 g14 = some o) : zv_Fn z_TB z_cl z_KX zy_X_named zxm140 (11, 660) [.inr 0, .inl x1, .inl x2] [.inl f0, .inr 4, .inr 1000, .inr 1000, .inl f4, .inl f5, .inl f6, .inl f7, .inl f8, .inl f9, .inl f10, .inl f11, .inl f12, .inl f13, .inl f14, .inl f15, .inl f16, .inl f17, .inl f18] [g0, g1, g2, g3, g4, g5, g6, g7, g8, g9, g10, g11, g12, g13, g14] (some o.1) [.inl o.2.1, .inr 4, .inr 1000, .inr 1000, .inl o.2.2.1, .inl o.2.2.2.1, .inl o.2.2.2.2.1, .inl f7, .inl f8, .inl o.2.2.2.2.2.1, .inl f10, .inl f11, .inl f12, .inl f13, .inl f14, .inl o.2.2.2.2.2.2.1, .inl f16, .inl o.2.2.2.2.2.2.2.1, .inl f18] [o.2.2.2.2.2.2.2.2.1, g1, o.2.2.2.2.2.2.2.2.2.1, g3, g4, g5, g6, g7, g8, g9, o.2.2.2.2.2.2.2.2.2.2.1, g11, o.2.2.2.2.2.2.2.2.2.2.2.1, o.2.2.2.2.2.2.2.2.2.2.2.2.1, o.2.2.2.2.2.2.2.2.2.2.2.2.2] := zv_meth (K := (z_KF0, z_KC0, z_KL0, z_KT0, [], [], [], none)) (FT := z_FT) (MT := z_MT) (n := 3) zxp140 (z_ks0 _ (fun _ h => List.mem_cons_of_mem _ h) _ _ _ _ (fun j r h _ => by cases h)) (fun _ _ => zs_KX_p) zyw_X_named (fun va F G h => by obtain ⟨rfl, _⟩ := h; rfl) (fun va F G h => by obtain ⟨rfl, _⟩ := h; rfl) rfl fun good va F G hB hret hvret hP => by
  obtain ⟨rfl, rfl, rfl⟩ := hP
  have l0 : ∀ (n : Nat) (x1 : Int) (x2 : Int) (x3 : Int) (f0 : Int) (f4 : Int) (f5 : Int) (f6 : Int) (f9 : Int) (f15 : Int) (f17 : Int) (g0 : (Int → Int)) (g2 : (Int → Int)) (g10 : (Int → Int)) (g12 : (Int → Int)) (g13 : (Int → Int)) (g14 : (Int → Int)) (q : ((Int × Int × Int × Int × Int × Int × (Int → Int) × (Int → Int) × (Int → Int)) ⊕ (Int × Int × Int × Int × Int × Int × Int × Int × (Int → Int) × (Int → Int) × (Int → Int) × (Int → Int) × (Int → Int) × (Int → Int)))), zf_X_named_l0 x1 f0 f7 f8 f10 f11 f12 f13 f14 f16 f18 g0 g1 g3 g4 g5 g6 g7 g8 g9 g11 g13 g14 n x3 f4 f5 f6 f9 f15 f17 g2 g10 g12 = some q → (Sum.elim (fun e : Int × Int × Int × Int × Int × Int × (Int → Int) × (Int → Int) × (Int → Int) => good 128 [.inr 0, .inl x1, .inl x2, .inr 1000, .inr 1000, .inr 1000] [] [.inl f0, .inr 4, .inr 3, .inr 4, .inl e.1, .inl e.2.1, .inl e.2.2.1, .inl f7, .inl f8, .inl e.2.2.2.1, .inl f10, .inl f11, .inl f12, .inl f13, .inl f14, .inl e.2.2.2.2.1, .inl f16, .inl e.2.2.2.2.2.1, .inl f18] [g0, g1, e.2.2.2.2.2.2.1, g3, g4, g5, g6, g7, g8, g9, e.2.2.2.2.2.2.2.1, g11, e.2.2.2.2.2.2.2.2, g13, g14]) (fun w : Int × Int × Int × Int × Int × Int × Int × Int × (Int → Int) × (Int → Int) × (Int → Int) × (Int → Int) × (Int → Int) × (Int → Int) => w = o) q) → good 51 [.inr 0, .inl x1, .inl x2, .inl x3, .inr 1000, .inr 1000] [] [.inl f0, .inr 4, .inr 3, .inr 4, .inl f4, .inl f5, .inl f6, .inl f7, .inl f8, .inl f9, .inl f10, .inl f11, .inl f12, .inl f13, .inl f14, .inl f15, .inl f16, .inl f17, .inl f18] [g0, g1, g2, g3, g4, g5, g6, g7, g8, g9, g10, g11, g12, g13, g14] := by
    intro n
    induction n with
    | zero => intro x1 x2 x3 f0 f4 f5 f6 f9 f15 f17 g0 g2 g10 g12 g13 g14 q h; exact absurd (show none = some q from h) (fun h => by cases h)
    | succ n ih =>
      intro x1 x2 x3 f0 f4 f5 f6 f9 f15 f17 g0 g2 g10 g12 g13 g14 q h hK
      replace h : zf_X_named_l0_b x1 f0 f7 f8 f10 f11 f12 f13 f14 f16 f18 g0 g1 g3 g4 g5 g6 g7 g8 g9 g11 g13 g14 (zf_X_named_l0 x1 f0 f7 f8 f10 f11 f12 f13 f14 f16 f18 g0 g1 g3 g4 g5 g6 g7 g8 g9 g11 g13 g14 n) x3 f4 f5 f6 f9 f15 f17 g2 g10 g12 = some q := h
      unfold zf_X_named_l0_b at h
      refine zv_ild hB zd140_51 rfl rfl ?_
      refine zv_ild hB zd140_52 rfl rfl ?_
      refine zv_cge hB zd140_53 rfl (fun hc8 => ?_) (fun hc8 => ?_)
      · rw [if_neg (Int.not_lt.mpr hc8)] at h
        have hq := Option.some.inj h
        subst hq
        refine zv_wk hB (L' := [.inr 0, .inl x1, .inl x2, .inr 1000, .inr 1000, .inr 1000]) (F' := [.inl f0, .inr 4, .inr 3, .inr 4, .inl f4, .inl f5, .inl f6, .inl f7, .inl f8, .inl f9, .inl f10, .inl f11, .inl f12, .inl f13, .inl f14, .inl f15, .inl f16, .inl f17, .inl f18]) ⟨fun _ => rfl, fun _ => rfl, fun _ => rfl, fun (h : zv_is (.inr 1000)) => (Nat.lt_irrefl 1000 h).elim, fun (h : zv_is (.inr 1000)) => (Nat.lt_irrefl 1000 h).elim, fun (h : zv_is (.inr 1000)) => (Nat.lt_irrefl 1000 h).elim, trivial⟩ ⟨fun _ => rfl, fun _ => rfl, fun _ => rfl, fun _ => rfl, fun _ => rfl, fun _ => rfl, fun _ => rfl, fun _ => rfl, fun _ => rfl, fun _ => rfl, fun _ => rfl, fun _ => rfl, fun _ => rfl, fun _ => rfl, fun _ => rfl, fun _ => rfl, fun _ => rfl, fun _ => rfl, fun _ => rfl, trivial⟩ ?_
        exact hK
      · rw [if_pos hc8] at h
        refine zv_ald hB zd140_56 rfl rfl rfl ?_
        refine zv_getr hB zd140_57 rfl ?_
        refine zv_con hB zd140_60 rfl ?_
        refine zv_ild hB zd140_61 rfl rfl ?_
        refine zv_mulw hB zd140_62 ?_
        obtain ⟨r9, hr9, h⟩ := zi_bind h
        refine zv_cv hB (zv_emq (va2 := [.inr 1, .inl (zi_w (2 * x3))]) (F := [.inl f0, .inr 4, .inr 3, .inr 4, .inl f4, .inl f5, .inl f6, .inl f7, .inl f8, .inl f9, .inl f10, .inl f11, .inl f12, .inl f13, .inl f14, .inl f15, .inl f16, .inl f17, .inl f18]) (F' := [.inl f0, .inr 4, .inr 3, .inr 4, .inl f4, .inl f5, .inl f6, .inl f7, .inl f8, .inl f9, .inl f10, .inl f11, .inl f12, .inl f13, .inl f14, .inl f15, .inl f16, .inl f17, .inl f18]) (G := [g0, g1, g2, g3, g4, g5, g6, g7, g8, g9, g10, g11, g12, g13, g14]) (G' := [g0, g1, g2, g3, g4, g5, g6, g7, g8, g9, g10, g11, g12, g13, g14]) (ρ := [1, 6]) (φ := []) (ψ := [1]) [none, none, none, none, none, none, none, none, none, none, none, none, none, none, none, none, none, none, none] [none, some 0, none, none, none, none, none, none, none, none, none, none, none, none, none] zyw_Tape_byteAt zyw_X_named zye_X_named (by decide +kernel) (zt_Tape_byteAt hr9) trivial ⟨rfl, trivial⟩ rfl rfl rfl rfl rfl rfl rfl) zd140_63 zxt138 rfl (by decide) (by decide) rfl ?_
        refine zv_ist hB zd140_66 rfl rfl rfl ?_
        refine zv_ald hB zd140_68 rfl rfl rfl ?_
        refine zv_getr hB zd140_69 rfl ?_
        refine zv_con hB zd140_72 rfl ?_
        refine zv_ild hB zd140_73 rfl rfl ?_
        refine zv_mulw hB zd140_74 ?_
        refine zv_con hB zd140_75 rfl ?_
        refine zv_addw hB zd140_76 ?_
        obtain ⟨r10, hr10, h⟩ := zi_bind h
        refine zv_cv hB (zv_emq (va2 := [.inr 1, .inl (zi_w ((zi_w (2 * x3)) + 1))]) (F := [.inl f0, .inr 4, .inr 3, .inr 4, .inl f4, .inl f5, .inl f6, .inl f7, .inl f8, .inl f9, .inl f10, .inl f11, .inl f12, .inl f13, .inl f14, .inl f15, .inl f16, .inl f17, .inl f18]) (F' := [.inl f0, .inr 4, .inr 3, .inr 4, .inl f4, .inl f5, .inl f6, .inl f7, .inl f8, .inl f9, .inl f10, .inl f11, .inl f12, .inl f13, .inl f14, .inl f15, .inl f16, .inl f17, .inl f18]) (G := [g0, g1, g2, g3, g4, g5, g6, g7, g8, g9, g10, g11, g12, g13, g14]) (G' := [g0, g1, g2, g3, g4, g5, g6, g7, g8, g9, g10, g11, g12, g13, g14]) (ρ := [1, 6]) (φ := []) (ψ := [1]) [none, none, none, none, none, none, none, none, none, none, none, none, none, none, none, none, none, none, none] [none, some 0, none, none, none, none, none, none, none, none, none, none, none, none, none] zyw_Tape_byteAt zyw_X_named zye_X_named (by decide +kernel) (zt_Tape_byteAt hr10) trivial ⟨rfl, trivial⟩ rfl rfl rfl rfl rfl rfl rfl) zd140_77 zxt138 rfl (by decide) (by decide) rfl ?_
        refine zv_ist hB zd140_80 rfl rfl rfl ?_
        refine zv_ild hB zd140_82 rfl rfl ?_
        refine zv_ild hB zd140_84 rfl rfl ?_
        obtain ⟨r11, hr11, h⟩ := zi_bind h
        refine zv_cs hB (zv_emq (va2 := [.inl r9, .inl r10]) (F := [.inl f0, .inr 4, .inr 3, .inr 4, .inl f4, .inl f5, .inl f6, .inl f7, .inl f8, .inl f9, .inl f10, .inl f11, .inl f12, .inl f13, .inl f14, .inl f15, .inl f16, .inl f17, .inl f18]) (F' := [.inl f0, .inr 4, .inr 3, .inr 4, .inl f4, .inl f5, .inl f6, .inl f7, .inl f8, .inl f9, .inl f10, .inl f11, .inl f12, .inl f13, .inl f14, .inl f15, .inl f16, .inl f17, .inl f18]) (G := [g0, g1, g2, g3, g4, g5, g6, g7, g8, g9, g10, g11, g12, g13, g14]) (G' := [g0, g1, g2, g3, g4, g5, g6, g7, g8, g9, g10, g11, g12, g13, g14]) (ρ := []) (φ := []) (ψ := []) [none, none, none, none, none, none, none, none, none, none, none, none, none, none, none, none, none, none, none] [none, none, none, none, none, none, none, none, none, none, none, none, none, none, none] zyw_X_isPlace zyw_X_named zye_X_named (by decide +kernel) (zt_X_isPlace hr11) trivial trivial rfl rfl rfl rfl rfl rfl rfl) zd140_86 zxt16 rfl (by decide) (by decide) rfl ?_
        refine zv_zne hB zd140_89 rfl (fun hc12 => ?_) (fun hc12 => ?_)
        · rw [if_neg hc12] at h
          refine zv_ald hB zd140_95 rfl rfl rfl ?_
          refine zv_getr hB zd140_96 rfl ?_
          refine zv_ild hB zd140_99 rfl rfl ?_
          refine zv_ild hB zd140_101 rfl rfl ?_
          obtain ⟨r13, hr13, h⟩ := zi_bind h
          refine zv_cv hB (zv_emq (va2 := [.inr 2, .inl r9, .inl r10]) (F := [.inl f0, .inr 4, .inr 3, .inr 4, .inl f4, .inl f5, .inl f6, .inl f7, .inl f8, .inl f9, .inl f10, .inl f11, .inl f12, .inl f13, .inl f14, .inl f15, .inl f16, .inl f17, .inl f18]) (F' := [.inl f0, .inr 4, .inr 3, .inr 4, .inl r13.2.2.2.1, .inl r13.1, .inl r13.2.1, .inl f7, .inl f8, .inl r13.2.2.1, .inl f10, .inl f11, .inl f12, .inl f13, .inl f14, .inl r13.2.2.2.2.1, .inl f16, .inl r13.2.2.2.2.2.1, .inl f18]) (G := [g0, g1, g2, g3, g4, g5, g6, g7, g8, g9, g10, g11, g12, g13, g14]) (G' := [g0, g1, r13.2.2.2.2.2.2.1, g3, g4, g5, g6, g7, g8, g9, r13.2.2.2.2.2.2.2, g11, g12, g13, g14]) (ρ := [2, 4, 7, 3, 8, 9, 10, 11, 12, 13, 14, 15, 16]) (φ := [3, 2, 5, 6, 7, 8, 9, 10, 11, 12, 13, 14, 4, 15, 16, 17, 18]) (ψ := [2, 3, 4, 5, 6, 7, 8, 9, 10, 11]) [none, none, some 1, some 0, some 12, some 2, some 3, some 4, some 5, some 6, some 7, some 8, some 9, some 10, some 11, some 13, some 14, some 15, some 16] [none, none, some 0, some 1, some 2, some 3, some 4, some 5, some 6, some 7, some 8, some 9, none, none, none] zyw_View_look zyw_X_named zye_X_named (by decide +kernel) (zt_View_look hr13) ⟨⟨_, rfl, fun _ => rfl⟩, ⟨_, rfl, fun _ => rfl⟩, ⟨_, rfl, fun _ => rfl⟩, ⟨_, rfl, fun _ => rfl⟩, ⟨_, rfl, fun _ => rfl⟩, ⟨_, rfl, fun _ => rfl⟩, ⟨_, rfl, fun _ => rfl⟩, ⟨_, rfl, fun _ => rfl⟩, ⟨_, rfl, fun _ => rfl⟩, ⟨_, rfl, fun _ => rfl⟩, ⟨_, rfl, fun _ => rfl⟩, ⟨_, rfl, fun _ => rfl⟩, ⟨_, rfl, fun _ => rfl⟩, ⟨_, rfl, fun _ => rfl⟩, ⟨_, rfl, fun _ => rfl⟩, ⟨_, rfl, fun _ => rfl⟩, ⟨_, rfl, fun _ => rfl⟩, trivial⟩ ⟨rfl, rfl, rfl, rfl, rfl, rfl, rfl, rfl, rfl, rfl, trivial⟩ rfl rfl rfl rfl rfl rfl rfl) zd140_103 zxt85 rfl (by decide) (by decide) rfl ?_
          refine zv_ald hB zd140_106 rfl rfl rfl ?_
          refine zv_getr hB zd140_107 rfl ?_
          refine zv_getr hB zd140_110 rfl ?_
          refine zv_ild hB zd140_113 rfl rfl ?_
          refine zv_ald hB zd140_114 rfl rfl rfl ?_
          refine zv_getr hB zd140_115 rfl ?_
          refine zv_getf hB zd140_118 rfl rfl (fun _ _ => ?_)
          obtain ⟨c14, h⟩ := zi_if h
          refine zv_iast hB zd140_121 rfl rfl (zi_ix_ok c14).1 (zi_ix_ok c14).2 ?_
          refine zv_iincw hB zd140_122 rfl rfl ?_
          refine zv_goto hB zd140_125 rfl ?_
          refine zv_wk hB (L' := [.inr 0, .inl x1, .inl x2, .inl (zi_w (x3 + 1)), .inr 1000, .inr 1000]) (F' := [.inl f0, .inr 4, .inr 3, .inr 4, .inl r13.2.2.2.1, .inl r13.1, .inl r13.2.1, .inl f7, .inl f8, .inl r13.2.2.1, .inl f10, .inl f11, .inl f12, .inl f13, .inl f14, .inl r13.2.2.2.2.1, .inl f16, .inl r13.2.2.2.2.2.1, .inl f18]) ⟨fun _ => rfl, fun _ => rfl, fun _ => rfl, fun _ => rfl, fun (h : zv_is (.inr 1000)) => (Nat.lt_irrefl 1000 h).elim, fun (h : zv_is (.inr 1000)) => (Nat.lt_irrefl 1000 h).elim, trivial⟩ ⟨fun _ => rfl, fun _ => rfl, fun _ => rfl, fun _ => rfl, fun _ => rfl, fun _ => rfl, fun _ => rfl, fun _ => rfl, fun _ => rfl, fun _ => rfl, fun _ => rfl, fun _ => rfl, fun _ => rfl, fun _ => rfl, fun _ => rfl, fun _ => rfl, fun _ => rfl, fun _ => rfl, fun _ => rfl, trivial⟩ ?_
          exact ih _ _ _ _ _ _ _ _ _ _ _ _ _ _ _ _ q h hK
        · rw [if_pos hc12] at h
          refine zv_con hB zd140_92 rfl ?_
          have hw : ((-2), f0, f4, f5, f6, f9, f15, f17, g0, g2, g10, g12, g13, g14) = o := zi_rk (Option.some.inj h) hK
          refine zv_wk hB (L' := [.inr 0, .inl x1, .inl x2, .inl x3, .inl r9, .inl r10]) (F' := [.inl f0, .inr 4, .inr 1000, .inr 1000, .inl f4, .inl f5, .inl f6, .inl f7, .inl f8, .inl f9, .inl f10, .inl f11, .inl f12, .inl f13, .inl f14, .inl f15, .inl f16, .inl f17, .inl f18]) ⟨fun _ => rfl, fun _ => rfl, fun _ => rfl, fun _ => rfl, fun _ => rfl, fun _ => rfl, trivial⟩ ⟨fun _ => rfl, fun _ => rfl, fun (h : zv_is (.inr 1000)) => (Nat.lt_irrefl 1000 h).elim, fun (h : zv_is (.inr 1000)) => (Nat.lt_irrefl 1000 h).elim, fun _ => rfl, fun _ => rfl, fun _ => rfl, fun _ => rfl, fun _ => rfl, fun _ => rfl, fun _ => rfl, fun _ => rfl, fun _ => rfl, fun _ => rfl, fun _ => rfl, fun _ => rfl, fun _ => rfl, fun _ => rfl, fun _ => rfl, trivial⟩ ?_
          subst hw
          exact hret _ _ _ _ _ zd140_94 (by trivial) ⟨rfl, rfl, rfl⟩
  unfold zf_X_named at h
  refine zv_ild hB zd140_0 rfl rfl ?_
  refine zv_con hB zd140_1 rfl ?_
  refine zv_con hB zd140_2 rfl ?_
  obtain ⟨r1, hr1, h⟩ := zi_bind h
  refine zv_cs hB (zv_emq (va2 := [.inl x1, .inl 2, .inl 8]) (F := [.inl f0, .inr 4, .inr 1000, .inr 1000, .inl f4, .inl f5, .inl f6, .inl f7, .inl f8, .inl f9, .inl f10, .inl f11, .inl f12, .inl f13, .inl f14, .inl f15, .inl f16, .inl f17, .inl f18]) (F' := [.inl f0, .inr 4, .inr 1000, .inr 1000, .inl f4, .inl f5, .inl f6, .inl f7, .inl f8, .inl f9, .inl f10, .inl f11, .inl f12, .inl f13, .inl f14, .inl f15, .inl f16, .inl f17, .inl f18]) (G := [g0, g1, g2, g3, g4, g5, g6, g7, g8, g9, g10, g11, g12, g13, g14]) (G' := [g0, g1, g2, g3, g4, g5, g6, g7, g8, g9, g10, g11, g12, g13, g14]) (ρ := []) (φ := []) (ψ := []) [none, none, none, none, none, none, none, none, none, none, none, none, none, none, none, none, none, none, none] [none, none, none, none, none, none, none, none, none, none, none, none, none, none, none] zyw_X_isWithin zyw_X_named zye_X_named (by decide +kernel) (zt_X_isWithin hr1) trivial trivial rfl rfl rfl rfl rfl rfl rfl) zd140_4 zxt15 rfl (by decide) (by decide) rfl ?_
  refine zv_zeq hB zd140_7 rfl (fun hc2 => ?_) (fun hc2 => ?_)
  · rw [if_pos hc2] at h
    refine zv_con hB zd140_32 rfl ?_
    have hw := Option.some.inj h
    subst hw
    exact hret _ _ _ _ _ zd140_33 (by trivial) ⟨rfl, rfl, rfl⟩
  · rw [if_neg hc2] at h
    refine zv_ild hB zd140_10 rfl rfl ?_
    refine zv_con hB zd140_11 rfl ?_
    refine zv_con hB zd140_12 rfl ?_
    obtain ⟨r3, hr3, h⟩ := zi_bind h
    refine zv_cs hB (zv_emq (va2 := [.inl x2, .inl 0, .inl 1]) (F := [.inl f0, .inr 4, .inr 1000, .inr 1000, .inl f4, .inl f5, .inl f6, .inl f7, .inl f8, .inl f9, .inl f10, .inl f11, .inl f12, .inl f13, .inl f14, .inl f15, .inl f16, .inl f17, .inl f18]) (F' := [.inl f0, .inr 4, .inr 1000, .inr 1000, .inl f4, .inl f5, .inl f6, .inl f7, .inl f8, .inl f9, .inl f10, .inl f11, .inl f12, .inl f13, .inl f14, .inl f15, .inl f16, .inl f17, .inl f18]) (G := [g0, g1, g2, g3, g4, g5, g6, g7, g8, g9, g10, g11, g12, g13, g14]) (G' := [g0, g1, g2, g3, g4, g5, g6, g7, g8, g9, g10, g11, g12, g13, g14]) (ρ := []) (φ := []) (ψ := []) [none, none, none, none, none, none, none, none, none, none, none, none, none, none, none, none, none, none, none] [none, none, none, none, none, none, none, none, none, none, none, none, none, none, none] zyw_X_isWithin zyw_X_named zye_X_named (by decide +kernel) (zt_X_isWithin hr3) trivial trivial rfl rfl rfl rfl rfl rfl rfl) zd140_13 zxt15 rfl (by decide) (by decide) rfl ?_
    refine zv_zeq hB zd140_16 rfl (fun hc4 => ?_) (fun hc4 => ?_)
    · rw [if_pos hc4] at h
      refine zv_con hB zd140_32 rfl ?_
      have hw := Option.some.inj h
      subst hw
      exact hret _ _ _ _ _ zd140_33 (by trivial) ⟨rfl, rfl, rfl⟩
    · rw [if_neg hc4] at h
      refine zv_ald hB zd140_19 rfl rfl rfl ?_
      refine zv_getr hB zd140_20 rfl ?_
      refine zv_con hB zd140_23 rfl ?_
      refine zv_ild hB zd140_24 rfl rfl ?_
      refine zv_mulw hB zd140_25 ?_
      obtain ⟨r5, hr5, h⟩ := zi_bind h
      refine zv_cv hB (zv_emq (va2 := [.inr 1, .inl (zi_w (2 * x1))]) (F := [.inl f0, .inr 4, .inr 1000, .inr 1000, .inl f4, .inl f5, .inl f6, .inl f7, .inl f8, .inl f9, .inl f10, .inl f11, .inl f12, .inl f13, .inl f14, .inl f15, .inl f16, .inl f17, .inl f18]) (F' := [.inl r5.2, .inr 4, .inr 1000, .inr 1000, .inl f4, .inl f5, .inl f6, .inl f7, .inl f8, .inl f9, .inl f10, .inl f11, .inl f12, .inl f13, .inl f14, .inl f15, .inl f16, .inl f17, .inl f18]) (G := [g0, g1, g2, g3, g4, g5, g6, g7, g8, g9, g10, g11, g12, g13, g14]) (G' := [g0, g1, g2, g3, g4, g5, g6, g7, g8, g9, g10, g11, g12, g13, g14]) (ρ := [1]) (φ := [0]) (ψ := []) [some 0, none, none, none, none, none, none, none, none, none, none, none, none, none, none, none, none, none, none] [none, none, none, none, none, none, none, none, none, none, none, none, none, none, none] zyw_Tape_take zyw_X_named zye_X_named (by decide +kernel) (zt_Tape_take hr5) ⟨⟨_, rfl, fun _ => rfl⟩, trivial⟩ trivial rfl rfl rfl rfl rfl rfl rfl) zd140_26 zxt35 rfl (by decide) (by decide) rfl ?_
      refine zv_zne hB zd140_29 rfl (fun hc6 => ?_) (fun hc6 => ?_)
      · rw [if_neg hc6] at h
        refine zv_ald hB zd140_34 rfl rfl rfl ?_
        refine zv_getr hB zd140_35 rfl ?_
        refine zv_ald hB zd140_38 rfl rfl rfl ?_
        refine zv_getr hB zd140_39 rfl ?_
        refine zv_ald hB zd140_42 rfl rfl rfl ?_
        refine zv_getq hB zd140_43 rfl rfl rfl ?_
        obtain ⟨r7, hr7, h⟩ := zi_bind h
        refine zv_cv hB (zv_emq (va2 := [.inr 2, .inr 3, .inr 4]) (F := [.inl r5.2, .inr 4, .inr 1000, .inr 1000, .inl f4, .inl f5, .inl f6, .inl f7, .inl f8, .inl f9, .inl f10, .inl f11, .inl f12, .inl f13, .inl f14, .inl f15, .inl f16, .inl f17, .inl f18]) (F' := [.inl r5.2, .inr 4, .inr 3, .inr 4, .inl r7.1, .inl f5, .inl f6, .inl f7, .inl f8, .inl f9, .inl f10, .inl f11, .inl f12, .inl f13, .inl f14, .inl f15, .inl f16, .inl f17, .inl f18]) (G := [g0, g1, g2, g3, g4, g5, g6, g7, g8, g9, g10, g11, g12, g13, g14]) (G' := [r7.2, g1, g2, g3, g4, g5, g6, g7, g8, g9, g10, g11, g12, g13, g14]) (ρ := [2, 3, 4, 5]) (φ := [2, 3, 4]) (ψ := [0]) [none, none, some 0, some 1, some 2, none, none, none, none, none, none, none, none, none, none, none, none, none, none] [some 0, none, none, none, none, none, none, none, none, none, none, none, none, none, none] zyw_View_open zyw_X_named zye_X_named (by decide +kernel) (zt_View_open hr7) ⟨⟨_, rfl, fun (h : zv_is (.inr 1000)) => (Nat.lt_irrefl 1000 h).elim⟩, ⟨_, rfl, fun (h : zv_is (.inr 1000)) => (Nat.lt_irrefl 1000 h).elim⟩, ⟨_, rfl, fun _ => rfl⟩, trivial⟩ ⟨rfl, trivial⟩ rfl rfl rfl rfl rfl rfl rfl) zd140_46 zxt84 rfl (by decide) (by decide) rfl ?_
        refine zv_con hB zd140_49 rfl ?_
        refine zv_ist hB zd140_50 rfl rfl rfl ?_
        obtain ⟨q15, hq15, h⟩ := zi_bind h
        refine l0 _ _ _ _ _ _ _ _ _ _ _ _ _ _ _ _ _ q15 hq15 ?_
        rcases q15 with e16 | w21
        · replace h := zi_sl h
          show good 128 [.inr 0, .inl x1, .inl x2, .inr 1000, .inr 1000, .inr 1000] [] [.inl r5.2, .inr 4, .inr 3, .inr 4, .inl e16.1, .inl e16.2.1, .inl e16.2.2.1, .inl f7, .inl f8, .inl e16.2.2.2.1, .inl f10, .inl f11, .inl f12, .inl f13, .inl f14, .inl e16.2.2.2.2.1, .inl f16, .inl e16.2.2.2.2.2.1, .inl f18] [r7.2, g1, e16.2.2.2.2.2.2.1, g3, g4, g5, g6, g7, g8, g9, e16.2.2.2.2.2.2.2.1, g11, e16.2.2.2.2.2.2.2.2, g13, g14]
          refine zv_ald hB zd140_128 rfl rfl rfl ?_
          refine zv_getr hB zd140_129 rfl ?_
          refine zv_ild hB zd140_132 rfl rfl ?_
          obtain ⟨r17, hr17, h⟩ := zi_bind h
          refine zv_cv hB (zv_emq (va2 := [.inr 17, .inl x1]) (F := [.inl r5.2, .inr 4, .inr 3, .inr 4, .inl e16.1, .inl e16.2.1, .inl e16.2.2.1, .inl f7, .inl f8, .inl e16.2.2.2.1, .inl f10, .inl f11, .inl f12, .inl f13, .inl f14, .inl e16.2.2.2.2.1, .inl f16, .inl e16.2.2.2.2.2.1, .inl f18]) (F' := [.inl r5.2, .inr 4, .inr 3, .inr 4, .inl e16.1, .inl e16.2.1, .inl e16.2.2.1, .inl f7, .inl f8, .inl e16.2.2.2.1, .inl f10, .inl f11, .inl f12, .inl f13, .inl f14, .inl e16.2.2.2.2.1, .inl f16, .inl e16.2.2.2.2.2.1, .inl f18]) (G := [r7.2, g1, e16.2.2.2.2.2.2.1, g3, g4, g5, g6, g7, g8, g9, e16.2.2.2.2.2.2.2.1, g11, e16.2.2.2.2.2.2.2.2, g13, g14]) (G' := [r7.2, g1, e16.2.2.2.2.2.2.1, g3, g4, g5, g6, g7, g8, g9, e16.2.2.2.2.2.2.2.1, g11, e16.2.2.2.2.2.2.2.2, r17.2.1, r17.2.2]) (ρ := [17, 19, 18, 20]) (φ := []) (ψ := [13, 12, 14]) [none, none, none, none, none, none, none, none, none, none, none, none, none, none, none, none, none, none, none] [none, none, none, none, none, none, none, none, none, none, none, none, some 1, some 0, some 2] zyw_Chooser_fewestNamed zyw_X_named zye_X_named (by decide +kernel) (zt_Chooser_fewestNamed hr17) trivial ⟨rfl, rfl, rfl, trivial⟩ rfl rfl rfl rfl rfl rfl rfl) zd140_133 zxt141 rfl (by decide) (by decide) rfl ?_
          refine zv_ist hB zd140_136 rfl rfl rfl ?_
          refine zv_ild hB zd140_137 rfl rfl ?_
          refine zv_con hB zd140_138 rfl ?_
          refine zv_cne hB zd140_139 rfl (fun hc18 => ?_) (fun hc18 => ?_)
          · rw [if_neg hc18] at h
            refine zv_ild hB zd140_145 rfl rfl ?_
            refine zv_zne hB zd140_146 rfl (fun hc19 => ?_) (fun hc19 => ?_)
            · rw [if_neg hc19] at h
              refine zv_ild hB zd140_156 rfl rfl ?_
              have hw := Option.some.inj h
              refine zv_wk hB (L' := [.inr 0, .inl x1, .inl x2, .inl r17.1, .inr 1000, .inr 1000]) (F' := [.inl r5.2, .inr 4, .inr 1000, .inr 1000, .inl e16.1, .inl e16.2.1, .inl e16.2.2.1, .inl f7, .inl f8, .inl e16.2.2.2.1, .inl f10, .inl f11, .inl f12, .inl f13, .inl f14, .inl e16.2.2.2.2.1, .inl f16, .inl e16.2.2.2.2.2.1, .inl f18]) ⟨fun _ => rfl, fun _ => rfl, fun _ => rfl, fun _ => rfl, fun _ => rfl, fun _ => rfl, trivial⟩ ⟨fun _ => rfl, fun _ => rfl, fun (h : zv_is (.inr 1000)) => (Nat.lt_irrefl 1000 h).elim, fun (h : zv_is (.inr 1000)) => (Nat.lt_irrefl 1000 h).elim, fun _ => rfl, fun _ => rfl, fun _ => rfl, fun _ => rfl, fun _ => rfl, fun _ => rfl, fun _ => rfl, fun _ => rfl, fun _ => rfl, fun _ => rfl, fun _ => rfl, fun _ => rfl, fun _ => rfl, fun _ => rfl, fun _ => rfl, trivial⟩ ?_
              subst hw
              exact hret _ _ _ _ _ zd140_157 (by trivial) ⟨rfl, rfl, rfl⟩
            · rw [if_pos hc19] at h
              refine zv_ild hB zd140_149 rfl rfl ?_
              obtain ⟨r20, hr20, h⟩ := zi_bind h
              refine zv_cs hB (zv_emq (va2 := [.inl r17.1]) (F := [.inl r5.2, .inr 4, .inr 3, .inr 4, .inl e16.1, .inl e16.2.1, .inl e16.2.2.1, .inl f7, .inl f8, .inl e16.2.2.2.1, .inl f10, .inl f11, .inl f12, .inl f13, .inl f14, .inl e16.2.2.2.2.1, .inl f16, .inl e16.2.2.2.2.2.1, .inl f18]) (F' := [.inl r5.2, .inr 4, .inr 3, .inr 4, .inl e16.1, .inl e16.2.1, .inl e16.2.2.1, .inl f7, .inl f8, .inl e16.2.2.2.1, .inl f10, .inl f11, .inl f12, .inl f13, .inl f14, .inl e16.2.2.2.2.1, .inl f16, .inl e16.2.2.2.2.2.1, .inl f18]) (G := [r7.2, g1, e16.2.2.2.2.2.2.1, g3, g4, g5, g6, g7, g8, g9, e16.2.2.2.2.2.2.2.1, g11, e16.2.2.2.2.2.2.2.2, r17.2.1, r17.2.2]) (G' := [r7.2, g1, e16.2.2.2.2.2.2.1, g3, g4, g5, g6, g7, g8, g9, e16.2.2.2.2.2.2.2.1, g11, e16.2.2.2.2.2.2.2.2, r17.2.1, r17.2.2]) (ρ := []) (φ := []) (ψ := []) [none, none, none, none, none, none, none, none, none, none, none, none, none, none, none, none, none, none, none] [none, none, none, none, none, none, none, none, none, none, none, none, none, none, none] zyw_Integer_bitCount zyw_X_named zye_X_named (by decide +kernel) (zt_Integer_bitCount hr20) trivial trivial rfl rfl rfl rfl rfl rfl rfl) zd140_150 zxt102 rfl (by decide) (by decide) rfl ?_
              refine zv_goto hB zd140_153 rfl ?_
              have hw := Option.some.inj h
              refine zv_wk hB (L' := [.inr 0, .inl x1, .inl x2, .inl r17.1, .inr 1000, .inr 1000]) (F' := [.inl r5.2, .inr 4, .inr 1000, .inr 1000, .inl e16.1, .inl e16.2.1, .inl e16.2.2.1, .inl f7, .inl f8, .inl e16.2.2.2.1, .inl f10, .inl f11, .inl f12, .inl f13, .inl f14, .inl e16.2.2.2.2.1, .inl f16, .inl e16.2.2.2.2.2.1, .inl f18]) ⟨fun _ => rfl, fun _ => rfl, fun _ => rfl, fun _ => rfl, fun _ => rfl, fun _ => rfl, trivial⟩ ⟨fun _ => rfl, fun _ => rfl, fun (h : zv_is (.inr 1000)) => (Nat.lt_irrefl 1000 h).elim, fun (h : zv_is (.inr 1000)) => (Nat.lt_irrefl 1000 h).elim, fun _ => rfl, fun _ => rfl, fun _ => rfl, fun _ => rfl, fun _ => rfl, fun _ => rfl, fun _ => rfl, fun _ => rfl, fun _ => rfl, fun _ => rfl, fun _ => rfl, fun _ => rfl, fun _ => rfl, fun _ => rfl, fun _ => rfl, trivial⟩ ?_
              subst hw
              exact hret _ _ _ _ _ zd140_157 (by trivial) ⟨rfl, rfl, rfl⟩
          · rw [if_pos hc18] at h
            refine zv_con hB zd140_142 rfl ?_
            have hw := Option.some.inj h
            refine zv_wk hB (L' := [.inr 0, .inl x1, .inl x2, .inl r17.1, .inr 1000, .inr 1000]) (F' := [.inl r5.2, .inr 4, .inr 1000, .inr 1000, .inl e16.1, .inl e16.2.1, .inl e16.2.2.1, .inl f7, .inl f8, .inl e16.2.2.2.1, .inl f10, .inl f11, .inl f12, .inl f13, .inl f14, .inl e16.2.2.2.2.1, .inl f16, .inl e16.2.2.2.2.2.1, .inl f18]) ⟨fun _ => rfl, fun _ => rfl, fun _ => rfl, fun _ => rfl, fun _ => rfl, fun _ => rfl, trivial⟩ ⟨fun _ => rfl, fun _ => rfl, fun (h : zv_is (.inr 1000)) => (Nat.lt_irrefl 1000 h).elim, fun (h : zv_is (.inr 1000)) => (Nat.lt_irrefl 1000 h).elim, fun _ => rfl, fun _ => rfl, fun _ => rfl, fun _ => rfl, fun _ => rfl, fun _ => rfl, fun _ => rfl, fun _ => rfl, fun _ => rfl, fun _ => rfl, fun _ => rfl, fun _ => rfl, fun _ => rfl, fun _ => rfl, fun _ => rfl, trivial⟩ ?_
            subst hw
            exact hret _ _ _ _ _ zd140_144 (by trivial) ⟨rfl, rfl, rfl⟩
        · exact Option.some.inj h
      · rw [if_pos hc6] at h
        refine zv_con hB zd140_32 rfl ?_
        have hw := Option.some.inj h
        subst hw
        exact hret _ _ _ _ _ zd140_33 (by trivial) ⟨rfl, rfl, rfl⟩
/-! Law_amount (II)I -/
-- names: 0 Law('arg', 0), 1 (0, 14)(0, 4, 3), 2 (0, 14)(0, 4, 5), 3 (0, 14)(0, 4, 6), 4 (0, 200)(0, 4, 0), 5 (0, 40)(0, 4, 13), 6 (0, 200)(0, 4, 1), 7 (0, 13)(0, 4, 12), 8 (0, 14)(0, 4, 4)
-- fields: f0 = 0.clauses_, f1 = 0.answer_; arrays: g0 = 1, g1 = 2, g2 = 3, g3 = 4, g4 = 5, g5 = 6, g6 = 7, g7 = 8; out: [('ret', None), ('f', 1), ('g', 4)]
abbrev zy_Law_amount : zNL := (9, [(0, 4)], [(0, 4, 7, 0), (0, 4, 14, 1)], [(0, 4, 3, 1), (0, 4, 5, 2), (0, 4, 6, 3), (0, 4, 0, 4), (0, 4, 13, 5), (0, 4, 1, 6), (0, 4, 12, 7), (0, 4, 4, 8)], [(1, 0, 14, 0), (2, 0, 14, 1), (3, 0, 14, 2), (4, 0, 200, 3), (5, 0, 40, 4), (6, 0, 200, 5), (7, 0, 13, 6), (8, 0, 14, 7)])
theorem zyw_Law_amount : zv_wf zy_Law_amount = true := by decide +kernel
theorem zye_Law_amount : zv_ek2 zy_Law_amount = true := by decide +kernel
def zf_Law_amount_l0_b (x1 : Int) (x2 : Int) (f0 : Int) (g0 : (Int → Int)) (g1 : (Int → Int)) (g2 : (Int → Int)) (g3 : (Int → Int)) (g5 : (Int → Int)) (g6 : (Int → Int)) (g7 : (Int → Int)) (rec : Int → Int → (Int → Int) → Option (((Int × (Int → Int)) ⊕ (Int × Int × (Int → Int))))) (x3 : Int) (f1 : Int) (g4 : (Int → Int)) : Option (((Int × (Int → Int)) ⊕ (Int × Int × (Int → Int)))) := if x3 < f0 then (cond (zi_ix x3 14) (if (g0 x3) = x1 then ((zf_Law_run (g1 x3) (g2 x3) f1 g3 g4 g5 g6).bind fun r4 => (if r4.1 = 0 then (rec (zi_w (x3 + 1)) r4.2.1 r4.2.2) else (if r4.2.1 = 0 then (rec (zi_w (x3 + 1)) r4.2.1 r4.2.2) else ((zf_Law_run (g7 x3) (g1 x3) r4.2.1 g3 r4.2.2 g5 g6).bind fun r7 => (if r7.1 = 0 then (some (.inr (0, r7.2.1, r7.2.2))) else ((zf_Math_min x2 r7.2.1).bind fun r9 => ((zf_Math_max 0 r9).bind fun r10 => (some (.inr (r10, r7.2.1, r7.2.2)))))))))) else (rec (zi_w (x3 + 1)) f1 g4)) none) else (some (.inl (f1, g4)))
def zf_Law_amount_l0 (x1 : Int) (x2 : Int) (f0 : Int) (g0 : (Int → Int)) (g1 : (Int → Int)) (g2 : (Int → Int)) (g3 : (Int → Int)) (g5 : (Int → Int)) (g6 : (Int → Int)) (g7 : (Int → Int)) : Nat → Int → Int → (Int → Int) → Option (((Int × (Int → Int)) ⊕ (Int × Int × (Int → Int))))
  | 0, _, _, _ => none
  | n + 1, x3, f1, g4 => zf_Law_amount_l0_b x1 x2 f0 g0 g1 g2 g3 g5 g6 g7 (zf_Law_amount_l0 x1 x2 f0 g0 g1 g2 g3 g5 g6 g7 n) x3 f1 g4
def zf_Law_amount (x1 : Int) (x2 : Int) (f0 : Int) (f1 : Int) (g0 : (Int → Int)) (g1 : (Int → Int)) (g2 : (Int → Int)) (g3 : (Int → Int)) (g4 : (Int → Int)) (g5 : (Int → Int)) (g6 : (Int → Int)) (g7 : (Int → Int)) : Option (Int × Int × (Int → Int)) := (zf_Law_amount_l0 x1 x2 f0 g0 g1 g2 g3 g5 g6 g7 zi_fu 0 f1 g4).bind fun q11 => Sum.elim (fun e12 => (some (0, e12.1, e12.2))) (fun w13 => some w13) q11
theorem zd146_0 : decode zxm146.2.1 0 = .ok (.iconst 0, 1) := by decide +kernel
theorem zd146_1 : decode zxm146.2.1 1 = .ok (.istore_n 3, 1) := by decide +kernel
theorem zd146_2 : decode zxm146.2.1 2 = .ok (.iload_n 3, 1) := by decide +kernel
theorem zd146_3 : decode zxm146.2.1 3 = .ok (.aload_n 0, 1) := by decide +kernel
theorem zd146_4 : decode zxm146.2.1 4 = .ok (.getfield 32, 3) := by decide +kernel
theorem zd146_7 : decode zxm146.2.1 7 = .ok (.if_icmp .ge 81, 3) := by decide +kernel
theorem zd146_10 : decode zxm146.2.1 10 = .ok (.aload_n 0, 1) := by decide +kernel
theorem zd146_11 : decode zxm146.2.1 11 = .ok (.getfield 20, 3) := by decide +kernel
theorem zd146_14 : decode zxm146.2.1 14 = .ok (.iload_n 3, 1) := by decide +kernel
theorem zd146_15 : decode zxm146.2.1 15 = .ok (.iaload, 1) := by decide +kernel
theorem zd146_16 : decode zxm146.2.1 16 = .ok (.iload_n 1, 1) := by decide +kernel
theorem zd146_17 : decode zxm146.2.1 17 = .ok (.if_icmp .ne 65, 3) := by decide +kernel
theorem zd146_20 : decode zxm146.2.1 20 = .ok (.aload_n 0, 1) := by decide +kernel
theorem zd146_21 : decode zxm146.2.1 21 = .ok (.aload_n 0, 1) := by decide +kernel
theorem zd146_22 : decode zxm146.2.1 22 = .ok (.getfield 26, 3) := by decide +kernel
theorem zd146_25 : decode zxm146.2.1 25 = .ok (.iload_n 3, 1) := by decide +kernel
theorem zd146_26 : decode zxm146.2.1 26 = .ok (.iaload, 1) := by decide +kernel
theorem zd146_27 : decode zxm146.2.1 27 = .ok (.aload_n 0, 1) := by decide +kernel
theorem zd146_28 : decode zxm146.2.1 28 = .ok (.getfield 29, 3) := by decide +kernel
theorem zd146_31 : decode zxm146.2.1 31 = .ok (.iload_n 3, 1) := by decide +kernel
theorem zd146_32 : decode zxm146.2.1 32 = .ok (.iaload, 1) := by decide +kernel
theorem zd146_33 : decode zxm146.2.1 33 = .ok (.invokevirtual 93, 3) := by decide +kernel
theorem zd146_36 : decode zxm146.2.1 36 = .ok (.ifCond .eq 46, 3) := by decide +kernel
theorem zd146_39 : decode zxm146.2.1 39 = .ok (.aload_n 0, 1) := by decide +kernel
theorem zd146_40 : decode zxm146.2.1 40 = .ok (.getfield 62, 3) := by decide +kernel
theorem zd146_43 : decode zxm146.2.1 43 = .ok (.ifCond .eq 39, 3) := by decide +kernel
theorem zd146_46 : decode zxm146.2.1 46 = .ok (.aload_n 0, 1) := by decide +kernel
theorem zd146_47 : decode zxm146.2.1 47 = .ok (.aload_n 0, 1) := by decide +kernel
theorem zd146_48 : decode zxm146.2.1 48 = .ok (.getfield 23, 3) := by decide +kernel
theorem zd146_51 : decode zxm146.2.1 51 = .ok (.iload_n 3, 1) := by decide +kernel
theorem zd146_52 : decode zxm146.2.1 52 = .ok (.iaload, 1) := by decide +kernel
theorem zd146_53 : decode zxm146.2.1 53 = .ok (.aload_n 0, 1) := by decide +kernel
theorem zd146_54 : decode zxm146.2.1 54 = .ok (.getfield 26, 3) := by decide +kernel
theorem zd146_57 : decode zxm146.2.1 57 = .ok (.iload_n 3, 1) := by decide +kernel
theorem zd146_58 : decode zxm146.2.1 58 = .ok (.iaload, 1) := by decide +kernel
theorem zd146_59 : decode zxm146.2.1 59 = .ok (.invokevirtual 93, 3) := by decide +kernel
theorem zd146_62 : decode zxm146.2.1 62 = .ok (.ifCond .eq 18, 3) := by decide +kernel
theorem zd146_65 : decode zxm146.2.1 65 = .ok (.iconst 0, 1) := by decide +kernel
theorem zd146_66 : decode zxm146.2.1 66 = .ok (.iload_n 2, 1) := by decide +kernel
theorem zd146_67 : decode zxm146.2.1 67 = .ok (.aload_n 0, 1) := by decide +kernel
theorem zd146_68 : decode zxm146.2.1 68 = .ok (.getfield 62, 3) := by decide +kernel
theorem zd146_71 : decode zxm146.2.1 71 = .ok (.invokestatic 96, 3) := by decide +kernel
theorem zd146_74 : decode zxm146.2.1 74 = .ok (.invokestatic 102, 3) := by decide +kernel
theorem zd146_77 : decode zxm146.2.1 77 = .ok (.goto 4, 3) := by decide +kernel
theorem zd146_80 : decode zxm146.2.1 80 = .ok (.iconst 0, 1) := by decide +kernel
theorem zd146_81 : decode zxm146.2.1 81 = .ok (.ireturn, 1) := by decide +kernel
theorem zd146_82 : decode zxm146.2.1 82 = .ok (.iinc 3 1, 3) := by decide +kernel
theorem zd146_85 : decode zxm146.2.1 85 = .ok (.goto (-83), 3) := by decide +kernel
theorem zd146_88 : decode zxm146.2.1 88 = .ok (.iconst 0, 1) := by decide +kernel
theorem zd146_89 : decode zxm146.2.1 89 = .ok (.ireturn, 1) := by decide +kernel
theorem zt_Law_amount {x1 : Int} {x2 : Int} {f0 : Int} {f1 : Int} {g0 : (Int → Int)} {g1 : (Int → Int)} {g2 : (Int → Int)} {g3 : (Int → Int)} {g4 : (Int → Int)} {g5 : (Int → Int)} {g6 : (Int → Int)} {g7 : (Int → Int)} {o : Int × Int × (Int → Int)} (h : zf_Law_amount x1 x2 f0 f1 g0 g1 g2 g3 g4 g5 g6 g7 = some o) : zv_Fn z_TB z_cl z_KX zy_Law_amount zxm146 (2, 120) [.inr 0, .inl x1, .inl x2] [.inl f0, .inl f1] [g0, g1, g2, g3, g4, g5, g6, g7] (some o.1) [.inl f0, .inl o.2.1] [g0, g1, g2, g3, o.2.2, g5, g6, g7] := zv_meth (K := (z_KF2, z_KC2, z_KL2, z_KT2, [], [], [], none)) (FT := z_FT) (MT := z_MT) (n := 3) zxp146 (z_ks2 _ (fun _ h => List.mem_cons_of_mem _ h) _ _ _ _ (fun j r h _ => by cases h)) (fun _ _ => zs_KX_p) zyw_Law_amount (fun va F G h => by obtain ⟨rfl, _⟩ := h; rfl) (fun va F G h => by obtain ⟨rfl, _⟩ := h; rfl) rfl fun good va F G hB hret hvret hP => by
  obtain ⟨rfl, rfl, rfl⟩ := hP
  have l0 : ∀ (n : Nat) (x1 : Int) (x2 : Int) (x3 : Int) (f1 : Int) (g4 : (Int → Int)) (q : ((Int × (Int → Int)) ⊕ (Int × Int × (Int → Int)))), zf_Law_amount_l0 x1 x2 f0 g0 g1 g2 g3 g5 g6 g7 n x3 f1 g4 = some q → (Sum.elim (fun e : Int × (Int → Int) => good 88 [.inr 1000, .inr 1000, .inr 1000, .inr 1000] [] [.inl f0, .inl e.1] [g0, g1, g2, g3, e.2, g5, g6, g7]) (fun w : Int × Int × (Int → Int) => w = o) q) → good 2 [.inr 0, .inl x1, .inl x2, .inl x3] [] [.inl f0, .inl f1] [g0, g1, g2, g3, g4, g5, g6, g7] := by
    intro n
    induction n with
    | zero => intro x1 x2 x3 f1 g4 q h; exact absurd (show none = some q from h) (fun h => by cases h)
    | succ n ih =>
      intro x1 x2 x3 f1 g4 q h hK
      replace h : zf_Law_amount_l0_b x1 x2 f0 g0 g1 g2 g3 g5 g6 g7 (zf_Law_amount_l0 x1 x2 f0 g0 g1 g2 g3 g5 g6 g7 n) x3 f1 g4 = some q := h
      unfold zf_Law_amount_l0_b at h
      refine zv_ild hB zd146_2 rfl rfl ?_
      refine zv_ald hB zd146_3 rfl rfl rfl ?_
      refine zv_getf hB zd146_4 rfl rfl (fun _ _ => ?_)
      refine zv_cge hB zd146_7 rfl (fun hc1 => ?_) (fun hc1 => ?_)
      · rw [if_neg (Int.not_lt.mpr hc1)] at h
        have hq := Option.some.inj h
        subst hq
        refine zv_wk hB (L' := [.inr 1000, .inr 1000, .inr 1000, .inr 1000]) (F' := [.inl f0, .inl f1]) ⟨fun (h : zv_is (.inr 1000)) => (Nat.lt_irrefl 1000 h).elim, fun (h : zv_is (.inr 1000)) => (Nat.lt_irrefl 1000 h).elim, fun (h : zv_is (.inr 1000)) => (Nat.lt_irrefl 1000 h).elim, fun (h : zv_is (.inr 1000)) => (Nat.lt_irrefl 1000 h).elim, trivial⟩ ⟨fun _ => rfl, fun _ => rfl, trivial⟩ ?_
        exact hK
      · rw [if_pos hc1] at h
        refine zv_ald hB zd146_10 rfl rfl rfl ?_
        refine zv_getr hB zd146_11 rfl ?_
        refine zv_ild hB zd146_14 rfl rfl ?_
        obtain ⟨c2, h⟩ := zi_if h
        refine zv_iald hB zd146_15 rfl rfl (zi_ix_ok c2).1 (zi_ix_ok c2).2 (fun _ _ => ?_)
        refine zv_ild hB zd146_16 rfl rfl ?_
        refine zv_cne hB zd146_17 rfl (fun hc3 => ?_) (fun hc3 => ?_)
        · rw [if_neg hc3] at h
          refine zv_iincw hB zd146_82 rfl rfl ?_
          refine zv_goto hB zd146_85 rfl ?_
          exact ih _ _ _ _ _ q h hK
        · rw [if_pos hc3] at h
          refine zv_ald hB zd146_20 rfl rfl rfl ?_
          refine zv_ald hB zd146_21 rfl rfl rfl ?_
          refine zv_getr hB zd146_22 rfl ?_
          refine zv_ild hB zd146_25 rfl rfl ?_
          refine zv_iald hB zd146_26 rfl rfl (zi_ix_ok c2).1 (zi_ix_ok c2).2 (fun _ _ => ?_)
          refine zv_ald hB zd146_27 rfl rfl rfl ?_
          refine zv_getr hB zd146_28 rfl ?_
          refine zv_ild hB zd146_31 rfl rfl ?_
          refine zv_iald hB zd146_32 rfl rfl (zi_ix_ok c2).1 (zi_ix_ok c2).2 (fun _ _ => ?_)
          obtain ⟨r4, hr4, h⟩ := zi_bind h
          refine zv_cv hB (zv_emq (va2 := [.inr 0, .inl (g1 x3), .inl (g2 x3)]) (F := [.inl f0, .inl f1]) (F' := [.inl f0, .inl r4.2.1]) (G := [g0, g1, g2, g3, g4, g5, g6, g7]) (G' := [g0, g1, g2, g3, r4.2.2, g5, g6, g7]) (ρ := [0, 4, 5, 6, 7]) (φ := [1]) (ψ := [3, 4, 5, 6]) [none, some 0] [none, none, none, some 0, some 1, some 2, some 3, none] zyw_Law_run zyw_Law_amount zye_Law_amount (by decide +kernel) (zt_Law_run hr4) ⟨⟨_, rfl, fun _ => rfl⟩, trivial⟩ ⟨rfl, rfl, rfl, rfl, trivial⟩ rfl rfl rfl rfl rfl rfl rfl) zd146_33 zxt94 rfl (by decide) (by decide) rfl ?_
          refine zv_zeq hB zd146_36 rfl (fun hc5 => ?_) (fun hc5 => ?_)
          · rw [if_pos hc5] at h
            refine zv_iincw hB zd146_82 rfl rfl ?_
            refine zv_goto hB zd146_85 rfl ?_
            exact ih _ _ _ _ _ q h hK
          · rw [if_neg hc5] at h
            refine zv_ald hB zd146_39 rfl rfl rfl ?_
            refine zv_getf hB zd146_40 rfl rfl (fun _ _ => ?_)
            refine zv_zeq hB zd146_43 rfl (fun hc6 => ?_) (fun hc6 => ?_)
            · rw [if_pos hc6] at h
              refine zv_iincw hB zd146_82 rfl rfl ?_
              refine zv_goto hB zd146_85 rfl ?_
              exact ih _ _ _ _ _ q h hK
            · rw [if_neg hc6] at h
              refine zv_ald hB zd146_46 rfl rfl rfl ?_
              refine zv_ald hB zd146_47 rfl rfl rfl ?_
              refine zv_getr hB zd146_48 rfl ?_
              refine zv_ild hB zd146_51 rfl rfl ?_
              refine zv_iald hB zd146_52 rfl rfl (zi_ix_ok c2).1 (zi_ix_ok c2).2 (fun _ _ => ?_)
              refine zv_ald hB zd146_53 rfl rfl rfl ?_
              refine zv_getr hB zd146_54 rfl ?_
              refine zv_ild hB zd146_57 rfl rfl ?_
              refine zv_iald hB zd146_58 rfl rfl (zi_ix_ok c2).1 (zi_ix_ok c2).2 (fun _ _ => ?_)
              obtain ⟨r7, hr7, h⟩ := zi_bind h
              refine zv_cv hB (zv_emq (va2 := [.inr 0, .inl (g7 x3), .inl (g1 x3)]) (F := [.inl f0, .inl r4.2.1]) (F' := [.inl f0, .inl r7.2.1]) (G := [g0, g1, g2, g3, r4.2.2, g5, g6, g7]) (G' := [g0, g1, g2, g3, r7.2.2, g5, g6, g7]) (ρ := [0, 4, 5, 6, 7]) (φ := [1]) (ψ := [3, 4, 5, 6]) [none, some 0] [none, none, none, some 0, some 1, some 2, some 3, none] zyw_Law_run zyw_Law_amount zye_Law_amount (by decide +kernel) (zt_Law_run hr7) ⟨⟨_, rfl, fun _ => rfl⟩, trivial⟩ ⟨rfl, rfl, rfl, rfl, trivial⟩ rfl rfl rfl rfl rfl rfl rfl) zd146_59 zxt94 rfl (by decide) (by decide) rfl ?_
              refine zv_zeq hB zd146_62 rfl (fun hc8 => ?_) (fun hc8 => ?_)
              · rw [if_pos hc8] at h
                refine zv_con hB zd146_80 rfl ?_
                have hw : (0, r7.2.1, r7.2.2) = o := zi_rk (Option.some.inj h) hK
                subst hw
                exact hret _ _ _ _ _ zd146_81 (by trivial) ⟨rfl, rfl, rfl⟩
              · rw [if_neg hc8] at h
                refine zv_con hB zd146_65 rfl ?_
                refine zv_ild hB zd146_66 rfl rfl ?_
                refine zv_ald hB zd146_67 rfl rfl rfl ?_
                refine zv_getf hB zd146_68 rfl rfl (fun _ _ => ?_)
                obtain ⟨r9, hr9, h⟩ := zi_bind h
                refine zv_cs hB (zv_emq (va2 := [.inl x2, .inl r7.2.1]) (F := [.inl f0, .inl r7.2.1]) (F' := [.inl f0, .inl r7.2.1]) (G := [g0, g1, g2, g3, r7.2.2, g5, g6, g7]) (G' := [g0, g1, g2, g3, r7.2.2, g5, g6, g7]) (ρ := []) (φ := []) (ψ := []) [none, none] [none, none, none, none, none, none, none, none] zyw_Math_min zyw_Law_amount zye_Law_amount (by decide +kernel) (zt_Math_min hr9) trivial trivial rfl rfl rfl rfl rfl rfl rfl) zd146_71 zxt37 rfl (by decide) (by decide) rfl ?_
                obtain ⟨r10, hr10, h⟩ := zi_bind h
                refine zv_cs hB (zv_emq (va2 := [.inl 0, .inl r9]) (F := [.inl f0, .inl r7.2.1]) (F' := [.inl f0, .inl r7.2.1]) (G := [g0, g1, g2, g3, r7.2.2, g5, g6, g7]) (G' := [g0, g1, g2, g3, r7.2.2, g5, g6, g7]) (ρ := []) (φ := []) (ψ := []) [none, none] [none, none, none, none, none, none, none, none] zyw_Math_max zyw_Law_amount zye_Law_amount (by decide +kernel) (zt_Math_max hr10) trivial trivial rfl rfl rfl rfl rfl rfl rfl) zd146_74 zxt55 rfl (by decide) (by decide) rfl ?_
                refine zv_goto hB zd146_77 rfl ?_
                have hw : (r10, r7.2.1, r7.2.2) = o := zi_rk (Option.some.inj h) hK
                subst hw
                exact hret _ _ _ _ _ zd146_81 (by trivial) ⟨rfl, rfl, rfl⟩
  unfold zf_Law_amount at h
  refine zv_con hB zd146_0 rfl ?_
  refine zv_ist hB zd146_1 rfl rfl rfl ?_
  obtain ⟨q11, hq11, h⟩ := zi_bind h
  refine l0 _ _ _ _ _ _ q11 hq11 ?_
  rcases q11 with e12 | w13
  · replace h := zi_sl h
    show good 88 [.inr 1000, .inr 1000, .inr 1000, .inr 1000] [] [.inl f0, .inl e12.1] [g0, g1, g2, g3, e12.2, g5, g6, g7]
    refine zv_con hB zd146_88 rfl ?_
    have hw := Option.some.inj h
    subst hw
    exact hret _ _ _ _ _ zd146_89 (by trivial) ⟨rfl, rfl, rfl⟩
  · exact Option.some.inj h
end
section
/-! Methods as functions, and that they do what these do. -/
/-! Chooser_weighStars (LStarTales$Sky;LStarTales$Law;)V -/
-- names: 0 Chooser('arg', 0), 1 Sky('arg', 1), 2 Law('arg', 2), 3 (0, 13)(2, 4, 12), 4 (0, 24)(0, 11, 3), 5 (0, 24)(0, 11, 4), 6 (0, 24)(1, 1, 3), 7 (0, 24)(1, 1, 2), 8 (0, 24)(1, 1, 1), 9 (0, 14)(2, 4, 3), 10 (0, 14)(2, 4, 5), 11 (0, 14)(2, 4, 6), 12 (0, 200)(2, 4, 0), 13 (0, 40)(2, 4, 13), 14 (0, 200)(2, 4, 1), 15 (0, 14)(2, 4, 4)
-- fields: f0 = 1.hour_, f1 = 1.night_, f2 = 1.told_, f3 = 2.clauses_, f4 = 2.answer_; arrays: g0 = 3, g1 = 4, g2 = 5, g3 = 6, g4 = 7, g5 = 8, g6 = 9, g7 = 10, g8 = 11, g9 = 12, g10 = 13, g11 = 14, g12 = 15; out: [('f', 4), ('g', 0), ('g', 1), ('g', 2), ('g', 10)]
abbrev zy_Chooser_weighStars : zNL := (16, [(0, 11), (1, 1), (2, 4)], [(1, 1, 6, 0), (1, 1, 7, 1), (1, 1, 0, 2), (2, 4, 7, 3), (2, 4, 14, 4)], [(2, 4, 12, 3), (0, 11, 3, 4), (0, 11, 4, 5), (1, 1, 3, 6), (1, 1, 2, 7), (1, 1, 1, 8), (2, 4, 3, 9), (2, 4, 5, 10), (2, 4, 6, 11), (2, 4, 0, 12), (2, 4, 13, 13), (2, 4, 1, 14), (2, 4, 4, 15)], [(3, 0, 13, 0), (4, 0, 24, 1), (5, 0, 24, 2), (6, 0, 24, 3), (7, 0, 24, 4), (8, 0, 24, 5), (9, 0, 14, 6), (10, 0, 14, 7), (11, 0, 14, 8), (12, 0, 200, 9), (13, 0, 40, 10), (14, 0, 200, 11), (15, 0, 14, 12)])
theorem zyw_Chooser_weighStars : zv_wf zy_Chooser_weighStars = true := by decide +kernel
theorem zye_Chooser_weighStars : zv_ek2 zy_Chooser_weighStars = true := by decide +kernel
def zf_Chooser_weighStars_l0_b (f0 : Int) (f2 : Int) (f3 : Int) (g3 : (Int → Int)) (g4 : (Int → Int)) (g5 : (Int → Int)) (g6 : (Int → Int)) (g7 : (Int → Int)) (g8 : (Int → Int)) (g9 : (Int → Int)) (g11 : (Int → Int)) (g12 : (Int → Int)) (rec : Int → Int → (Int → Int) → (Int → Int) → (Int → Int) → (Int → Int) → Option (Int × (Int → Int) × (Int → Int) × (Int → Int) × (Int → Int))) (x3 : Int) (f4 : Int) (g0 : (Int → Int)) (g1 : (Int → Int)) (g2 : (Int → Int)) (g10 : (Int → Int)) : Option (Int × (Int → Int) × (Int → Int) × (Int → Int) × (Int → Int)) := if x3 < 24 then (cond (zi_ix x3 24) ((zf_Sky_hasStar x3 f2).bind fun r5 => (if r5 = 0 then (rec (zi_w (x3 + 1)) f4 g0 (zv_up g1 x3 0) (zv_up g2 x3 0) g10) else ((zf_Law_setStar x3 f0 g0 g3 g4 g5).bind fun r7 => ((zf_Law_amount 119 999 f3 f4 g6 g7 g8 g9 g10 g11 r7 g12).bind fun r8 => ((zf_Law_amount 103 99 f3 r8.2.1 g6 g7 g8 g9 r8.2.2 g11 r7 g12).bind fun r9 => (rec (zi_w (x3 + 1)) r9.2.1 r7 (zv_up (zv_up g1 x3 0) x3 r8.1) (zv_up (zv_up g2 x3 0) x3 r9.1) r9.2.2)))))) none) else (some (f4, g0, g1, g2, g10))
def zf_Chooser_weighStars_l0 (f0 : Int) (f2 : Int) (f3 : Int) (g3 : (Int → Int)) (g4 : (Int → Int)) (g5 : (Int → Int)) (g6 : (Int → Int)) (g7 : (Int → Int)) (g8 : (Int → Int)) (g9 : (Int → Int)) (g11 : (Int → Int)) (g12 : (Int → Int)) : Nat → Int → Int → (Int → Int) → (Int → Int) → (Int → Int) → (Int → Int) → Option (Int × (Int → Int) × (Int → Int) × (Int → Int) × (Int → Int))
  | 0, _, _, _, _, _, _ => none
  | n + 1, x3, f4, g0, g1, g2, g10 => zf_Chooser_weighStars_l0_b f0 f2 f3 g3 g4 g5 g6 g7 g8 g9 g11 g12 (zf_Chooser_weighStars_l0 f0 f2 f3 g3 g4 g5 g6 g7 g8 g9 g11 g12 n) x3 f4 g0 g1 g2 g10
def zf_Chooser_weighStars (f0 : Int) (f1 : Int) (f2 : Int) (f3 : Int) (f4 : Int) (g0 : (Int → Int)) (g1 : (Int → Int)) (g2 : (Int → Int)) (g3 : (Int → Int)) (g4 : (Int → Int)) (g5 : (Int → Int)) (g6 : (Int → Int)) (g7 : (Int → Int)) (g8 : (Int → Int)) (g9 : (Int → Int)) (g10 : (Int → Int)) (g11 : (Int → Int)) (g12 : (Int → Int)) : Option (Int × (Int → Int) × (Int → Int) × (Int → Int) × (Int → Int)) := (zf_Law_forgetLetters g0).bind fun r1 => ((zf_Law_setTime f0 f1 r1).bind fun r2 => ((zf_Chooser_weighStars_l0 f0 f2 f3 g3 g4 g5 g6 g7 g8 g9 g11 g12 zi_fu 0 f4 r2 g1 g2 g10).bind fun q10 => (some (q10.1, q10.2.1, q10.2.2.1, q10.2.2.2.1, q10.2.2.2.2))))
theorem zd145_0 : decode zxm145.2.1 0 = .ok (.aload_n 2, 1) := by decide +kernel
theorem zd145_1 : decode zxm145.2.1 1 = .ok (.invokevirtual 52, 3) := by decide +kernel
theorem zd145_4 : decode zxm145.2.1 4 = .ok (.aload_n 2, 1) := by decide +kernel
theorem zd145_5 : decode zxm145.2.1 5 = .ok (.aload_n 1, 1) := by decide +kernel
theorem zd145_6 : decode zxm145.2.1 6 = .ok (.invokevirtual 57, 3) := by decide +kernel
theorem zd145_9 : decode zxm145.2.1 9 = .ok (.iconst 0, 1) := by decide +kernel
theorem zd145_10 : decode zxm145.2.1 10 = .ok (.istore_n 3, 1) := by decide +kernel
theorem zd145_11 : decode zxm145.2.1 11 = .ok (.iload_n 3, 1) := by decide +kernel
theorem zd145_12 : decode zxm145.2.1 12 = .ok (.bipush 24, 2) := by decide +kernel
theorem zd145_14 : decode zxm145.2.1 14 = .ok (.if_icmp .ge 66, 3) := by decide +kernel
theorem zd145_17 : decode zxm145.2.1 17 = .ok (.aload_n 0, 1) := by decide +kernel
theorem zd145_18 : decode zxm145.2.1 18 = .ok (.getfield 21, 3) := by decide +kernel
theorem zd145_21 : decode zxm145.2.1 21 = .ok (.iload_n 3, 1) := by decide +kernel
theorem zd145_22 : decode zxm145.2.1 22 = .ok (.iconst 0, 1) := by decide +kernel
theorem zd145_23 : decode zxm145.2.1 23 = .ok (.iastore, 1) := by decide +kernel
theorem zd145_24 : decode zxm145.2.1 24 = .ok (.aload_n 0, 1) := by decide +kernel
theorem zd145_25 : decode zxm145.2.1 25 = .ok (.getfield 24, 3) := by decide +kernel
theorem zd145_28 : decode zxm145.2.1 28 = .ok (.iload_n 3, 1) := by decide +kernel
theorem zd145_29 : decode zxm145.2.1 29 = .ok (.iconst 0, 1) := by decide +kernel
theorem zd145_30 : decode zxm145.2.1 30 = .ok (.iastore, 1) := by decide +kernel
theorem zd145_31 : decode zxm145.2.1 31 = .ok (.aload_n 1, 1) := by decide +kernel
theorem zd145_32 : decode zxm145.2.1 32 = .ok (.iload_n 3, 1) := by decide +kernel
theorem zd145_33 : decode zxm145.2.1 33 = .ok (.invokevirtual 61, 3) := by decide +kernel
theorem zd145_36 : decode zxm145.2.1 36 = .ok (.ifCond .eq 38, 3) := by decide +kernel
theorem zd145_39 : decode zxm145.2.1 39 = .ok (.aload_n 2, 1) := by decide +kernel
theorem zd145_40 : decode zxm145.2.1 40 = .ok (.aload_n 1, 1) := by decide +kernel
theorem zd145_41 : decode zxm145.2.1 41 = .ok (.iload_n 3, 1) := by decide +kernel
theorem zd145_42 : decode zxm145.2.1 42 = .ok (.invokevirtual 67, 3) := by decide +kernel
theorem zd145_45 : decode zxm145.2.1 45 = .ok (.aload_n 0, 1) := by decide +kernel
theorem zd145_46 : decode zxm145.2.1 46 = .ok (.getfield 21, 3) := by decide +kernel
theorem zd145_49 : decode zxm145.2.1 49 = .ok (.iload_n 3, 1) := by decide +kernel
theorem zd145_50 : decode zxm145.2.1 50 = .ok (.aload_n 2, 1) := by decide +kernel
theorem zd145_51 : decode zxm145.2.1 51 = .ok (.bipush 119, 2) := by decide +kernel
theorem zd145_53 : decode zxm145.2.1 53 = .ok (.sipush 999, 3) := by decide +kernel
theorem zd145_56 : decode zxm145.2.1 56 = .ok (.invokevirtual 71, 3) := by decide +kernel
theorem zd145_59 : decode zxm145.2.1 59 = .ok (.iastore, 1) := by decide +kernel
theorem zd145_60 : decode zxm145.2.1 60 = .ok (.aload_n 0, 1) := by decide +kernel
theorem zd145_61 : decode zxm145.2.1 61 = .ok (.getfield 24, 3) := by decide +kernel
theorem zd145_64 : decode zxm145.2.1 64 = .ok (.iload_n 3, 1) := by decide +kernel
theorem zd145_65 : decode zxm145.2.1 65 = .ok (.aload_n 2, 1) := by decide +kernel
theorem zd145_66 : decode zxm145.2.1 66 = .ok (.bipush 103, 2) := by decide +kernel
theorem zd145_68 : decode zxm145.2.1 68 = .ok (.bipush 99, 2) := by decide +kernel
theorem zd145_70 : decode zxm145.2.1 70 = .ok (.invokevirtual 71, 3) := by decide +kernel
theorem zd145_73 : decode zxm145.2.1 73 = .ok (.iastore, 1) := by decide +kernel
theorem zd145_74 : decode zxm145.2.1 74 = .ok (.iinc 3 1, 3) := by decide +kernel
theorem zd145_77 : decode zxm145.2.1 77 = .ok (.goto (-66), 3) := by decide +kernel
theorem zd145_80 : decode zxm145.2.1 80 = .ok (.return_, 1) := by decide +kernel
theorem zt_Chooser_weighStars {f0 : Int} {f1 : Int} {f2 : Int} {f3 : Int} {f4 : Int} {g0 : (Int → Int)} {g1 : (Int → Int)} {g2 : (Int → Int)} {g3 : (Int → Int)} {g4 : (Int → Int)} {g5 : (Int → Int)} {g6 : (Int → Int)} {g7 : (Int → Int)} {g8 : (Int → Int)} {g9 : (Int → Int)} {g10 : (Int → Int)} {g11 : (Int → Int)} {g12 : (Int → Int)} {o : Int × (Int → Int) × (Int → Int) × (Int → Int) × (Int → Int)} (h : zf_Chooser_weighStars f0 f1 f2 f3 f4 g0 g1 g2 g3 g4 g5 g6 g7 g8 g9 g10 g11 g12 = some o) : zv_Fn z_TB z_cl z_KX zy_Chooser_weighStars zxm145 (3, 180) [.inr 0, .inr 1, .inr 2] [.inl f0, .inl f1, .inl f2, .inl f3, .inl f4] [g0, g1, g2, g3, g4, g5, g6, g7, g8, g9, g10, g11, g12] none [.inl f0, .inl f1, .inl f2, .inl f3, .inl o.1] [o.2.1, o.2.2.1, o.2.2.2.1, g3, g4, g5, g6, g7, g8, g9, o.2.2.2.2, g11, g12] := zv_meth (K := (z_KF1, z_KC1, z_KL1, z_KT1, [], [], [], none)) (FT := z_FT) (MT := z_MT) (n := 3) zxp145 (z_ks1 _ (fun _ h => List.mem_cons_of_mem _ h) _ _ _ _ (fun j r h _ => by cases h)) (fun _ _ => zs_KX_p) zyw_Chooser_weighStars (fun va F G h => by obtain ⟨rfl, _⟩ := h; rfl) (fun va F G h => by obtain ⟨rfl, _⟩ := h; rfl) rfl fun good va F G hB hret hvret hP => by
  obtain ⟨rfl, rfl, rfl⟩ := hP
  have l0 : ∀ (n : Nat) (x3 : Int) (f4 : Int) (g0 : (Int → Int)) (g1 : (Int → Int)) (g2 : (Int → Int)) (g10 : (Int → Int)) (q : Int × (Int → Int) × (Int → Int) × (Int → Int) × (Int → Int)), zf_Chooser_weighStars_l0 f0 f2 f3 g3 g4 g5 g6 g7 g8 g9 g11 g12 n x3 f4 g0 g1 g2 g10 = some q → (good 80 [.inr 1000, .inr 1000, .inr 1000, .inr 1000] [] [.inl f0, .inl f1, .inl f2, .inl f3, .inl q.1] [q.2.1, q.2.2.1, q.2.2.2.1, g3, g4, g5, g6, g7, g8, g9, q.2.2.2.2, g11, g12]) → good 11 [.inr 0, .inr 1, .inr 2, .inl x3] [] [.inl f0, .inl f1, .inl f2, .inl f3, .inl f4] [g0, g1, g2, g3, g4, g5, g6, g7, g8, g9, g10, g11, g12] := by
    intro n
    induction n with
    | zero => intro x3 f4 g0 g1 g2 g10 q h; exact absurd (show none = some q from h) (fun h => by cases h)
    | succ n ih =>
      intro x3 f4 g0 g1 g2 g10 q h hK
      replace h : zf_Chooser_weighStars_l0_b f0 f2 f3 g3 g4 g5 g6 g7 g8 g9 g11 g12 (zf_Chooser_weighStars_l0 f0 f2 f3 g3 g4 g5 g6 g7 g8 g9 g11 g12 n) x3 f4 g0 g1 g2 g10 = some q := h
      unfold zf_Chooser_weighStars_l0_b at h
      refine zv_ild hB zd145_11 rfl rfl ?_
      refine zv_con hB zd145_12 rfl ?_
      refine zv_cge hB zd145_14 rfl (fun hc3 => ?_) (fun hc3 => ?_)
      · rw [if_neg (Int.not_lt.mpr hc3)] at h
        have hq := Option.some.inj h
        subst hq
        refine zv_wk hB (L' := [.inr 1000, .inr 1000, .inr 1000, .inr 1000]) (F' := [.inl f0, .inl f1, .inl f2, .inl f3, .inl f4]) ⟨fun (h : zv_is (.inr 1000)) => (Nat.lt_irrefl 1000 h).elim, fun (h : zv_is (.inr 1000)) => (Nat.lt_irrefl 1000 h).elim, fun (h : zv_is (.inr 1000)) => (Nat.lt_irrefl 1000 h).elim, fun (h : zv_is (.inr 1000)) => (Nat.lt_irrefl 1000 h).elim, trivial⟩ ⟨fun _ => rfl, fun _ => rfl, fun _ => rfl, fun _ => rfl, fun _ => rfl, trivial⟩ ?_
        exact hK
      · rw [if_pos hc3] at h
        refine zv_ald hB zd145_17 rfl rfl rfl ?_
        refine zv_getr hB zd145_18 rfl ?_
        refine zv_ild hB zd145_21 rfl rfl ?_
        refine zv_con hB zd145_22 rfl ?_
        obtain ⟨c4, h⟩ := zi_if h
        refine zv_iast hB zd145_23 rfl rfl (zi_ix_ok c4).1 (zi_ix_ok c4).2 ?_
        refine zv_ald hB zd145_24 rfl rfl rfl ?_
        refine zv_getr hB zd145_25 rfl ?_
        refine zv_ild hB zd145_28 rfl rfl ?_
        refine zv_con hB zd145_29 rfl ?_
        refine zv_iast hB zd145_30 rfl rfl (zi_ix_ok c4).1 (zi_ix_ok c4).2 ?_
        refine zv_ald hB zd145_31 rfl rfl rfl ?_
        refine zv_ild hB zd145_32 rfl rfl ?_
        obtain ⟨r5, hr5, h⟩ := zi_bind h
        refine zv_cv hB (zv_emq (va2 := [.inr 1, .inl x3]) (F := [.inl f0, .inl f1, .inl f2, .inl f3, .inl f4]) (F' := [.inl f0, .inl f1, .inl f2, .inl f3, .inl f4]) (G := [g0, (zv_up g1 x3 0), (zv_up g2 x3 0), g3, g4, g5, g6, g7, g8, g9, g10, g11, g12]) (G' := [g0, (zv_up g1 x3 0), (zv_up g2 x3 0), g3, g4, g5, g6, g7, g8, g9, g10, g11, g12]) (ρ := [1]) (φ := [2]) (ψ := []) [none, none, some 0, none, none] [none, none, none, none, none, none, none, none, none, none, none, none, none] zyw_Sky_hasStar zyw_Chooser_weighStars zye_Chooser_weighStars (by decide +kernel) (zt_Sky_hasStar hr5) ⟨⟨_, rfl, fun _ => rfl⟩, trivial⟩ trivial rfl rfl rfl rfl rfl rfl rfl) zd145_33 zxt18 rfl (by decide) (by decide) rfl ?_
        refine zv_zeq hB zd145_36 rfl (fun hc6 => ?_) (fun hc6 => ?_)
        · rw [if_pos hc6] at h
          refine zv_iincw hB zd145_74 rfl rfl ?_
          refine zv_goto hB zd145_77 rfl ?_
          exact ih _ _ _ _ _ _ q h hK
        · rw [if_neg hc6] at h
          refine zv_ald hB zd145_39 rfl rfl rfl ?_
          refine zv_ald hB zd145_40 rfl rfl rfl ?_
          refine zv_ild hB zd145_41 rfl rfl ?_
          obtain ⟨r7, hr7, h⟩ := zi_bind h
          refine zv_cv hB (zv_emq (va2 := [.inr 2, .inr 1, .inl x3]) (F := [.inl f0, .inl f1, .inl f2, .inl f3, .inl f4]) (F' := [.inl f0, .inl f1, .inl f2, .inl f3, .inl f4]) (G := [g0, (zv_up g1 x3 0), (zv_up g2 x3 0), g3, g4, g5, g6, g7, g8, g9, g10, g11, g12]) (G' := [r7, (zv_up g1 x3 0), (zv_up g2 x3 0), g3, g4, g5, g6, g7, g8, g9, g10, g11, g12]) (ρ := [2, 1, 3, 6, 7, 8]) (φ := [0]) (ψ := [0, 3, 4, 5]) [some 0, none, none, none, none] [some 0, none, none, some 1, some 2, some 3, none, none, none, none, none, none, none] zyw_Law_setStar zyw_Chooser_weighStars zye_Chooser_weighStars (by decide +kernel) (zt_Law_setStar hr7) ⟨⟨_, rfl, fun _ => rfl⟩, trivial⟩ ⟨rfl, rfl, rfl, rfl, trivial⟩ rfl rfl rfl rfl rfl rfl rfl) zd145_42 zxt92 rfl (by decide) (by decide) rfl ?_
          refine zv_ald hB zd145_45 rfl rfl rfl ?_
          refine zv_getr hB zd145_46 rfl ?_
          refine zv_ild hB zd145_49 rfl rfl ?_
          refine zv_ald hB zd145_50 rfl rfl rfl ?_
          refine zv_con hB zd145_51 rfl ?_
          refine zv_con hB zd145_53 rfl ?_
          obtain ⟨r8, hr8, h⟩ := zi_bind h
          refine zv_cv hB (zv_emq (va2 := [.inr 2, .inl 119, .inl 999]) (F := [.inl f0, .inl f1, .inl f2, .inl f3, .inl f4]) (F' := [.inl f0, .inl f1, .inl f2, .inl f3, .inl r8.2.1]) (G := [r7, (zv_up g1 x3 0), (zv_up g2 x3 0), g3, g4, g5, g6, g7, g8, g9, g10, g11, g12]) (G' := [r7, (zv_up g1 x3 0), (zv_up g2 x3 0), g3, g4, g5, g6, g7, g8, g9, r8.2.2, g11, g12]) (ρ := [2, 9, 10, 11, 12, 13, 14, 3, 15]) (φ := [3, 4]) (ψ := [6, 7, 8, 9, 10, 11, 0, 12]) [none, none, none, some 0, some 1] [some 6, none, none, none, none, none, some 0, some 1, some 2, some 3, some 4, some 5, some 7] zyw_Law_amount zyw_Chooser_weighStars zye_Chooser_weighStars (by decide +kernel) (zt_Law_amount hr8) ⟨⟨_, rfl, fun _ => rfl⟩, ⟨_, rfl, fun _ => rfl⟩, trivial⟩ ⟨rfl, rfl, rfl, rfl, rfl, rfl, rfl, rfl, trivial⟩ rfl rfl rfl rfl rfl rfl rfl) zd145_56 zxt146 rfl (by decide) (by decide) rfl ?_
          refine zv_iast hB zd145_59 rfl rfl (zi_ix_ok c4).1 (zi_ix_ok c4).2 ?_
          refine zv_ald hB zd145_60 rfl rfl rfl ?_
          refine zv_getr hB zd145_61 rfl ?_
          refine zv_ild hB zd145_64 rfl rfl ?_
          refine zv_ald hB zd145_65 rfl rfl rfl ?_
          refine zv_con hB zd145_66 rfl ?_
          refine zv_con hB zd145_68 rfl ?_
          obtain ⟨r9, hr9, h⟩ := zi_bind h
          refine zv_cv hB (zv_emq (va2 := [.inr 2, .inl 103, .inl 99]) (F := [.inl f0, .inl f1, .inl f2, .inl f3, .inl r8.2.1]) (F' := [.inl f0, .inl f1, .inl f2, .inl f3, .inl r9.2.1]) (G := [r7, (zv_up (zv_up g1 x3 0) x3 r8.1), (zv_up g2 x3 0), g3, g4, g5, g6, g7, g8, g9, r8.2.2, g11, g12]) (G' := [r7, (zv_up (zv_up g1 x3 0) x3 r8.1), (zv_up g2 x3 0), g3, g4, g5, g6, g7, g8, g9, r9.2.2, g11, g12]) (ρ := [2, 9, 10, 11, 12, 13, 14, 3, 15]) (φ := [3, 4]) (ψ := [6, 7, 8, 9, 10, 11, 0, 12]) [none, none, none, some 0, some 1] [some 6, none, none, none, none, none, some 0, some 1, some 2, some 3, some 4, some 5, some 7] zyw_Law_amount zyw_Chooser_weighStars zye_Chooser_weighStars (by decide +kernel) (zt_Law_amount hr9) ⟨⟨_, rfl, fun _ => rfl⟩, ⟨_, rfl, fun _ => rfl⟩, trivial⟩ ⟨rfl, rfl, rfl, rfl, rfl, rfl, rfl, rfl, trivial⟩ rfl rfl rfl rfl rfl rfl rfl) zd145_70 zxt146 rfl (by decide) (by decide) rfl ?_
          refine zv_iast hB zd145_73 rfl rfl (zi_ix_ok c4).1 (zi_ix_ok c4).2 ?_
          refine zv_iincw hB zd145_74 rfl rfl ?_
          refine zv_goto hB zd145_77 rfl ?_
          exact ih _ _ _ _ _ _ q h hK
  unfold zf_Chooser_weighStars at h
  refine zv_ald hB zd145_0 rfl rfl rfl ?_
  obtain ⟨r1, hr1, h⟩ := zi_bind h
  refine zv_cv hB (zv_emq (va2 := [.inr 2]) (F := [.inl f0, .inl f1, .inl f2, .inl f3, .inl f4]) (F' := [.inl f0, .inl f1, .inl f2, .inl f3, .inl f4]) (G := [g0, g1, g2, g3, g4, g5, g6, g7, g8, g9, g10, g11, g12]) (G' := [r1, g1, g2, g3, g4, g5, g6, g7, g8, g9, g10, g11, g12]) (ρ := [2, 3]) (φ := []) (ψ := [0]) [none, none, none, none, none] [some 0, none, none, none, none, none, none, none, none, none, none, none, none] zyw_Law_forgetLetters zyw_Chooser_weighStars zye_Chooser_weighStars (by decide +kernel) (zt_Law_forgetLetters hr1) trivial ⟨rfl, trivial⟩ rfl rfl rfl rfl rfl rfl rfl) zd145_1 zxt87 rfl (by decide) (by decide) rfl ?_
  refine zv_ald hB zd145_4 rfl rfl rfl ?_
  refine zv_ald hB zd145_5 rfl rfl rfl ?_
  obtain ⟨r2, hr2, h⟩ := zi_bind h
  refine zv_cv hB (zv_emq (va2 := [.inr 2, .inr 1]) (F := [.inl f0, .inl f1, .inl f2, .inl f3, .inl f4]) (F' := [.inl f0, .inl f1, .inl f2, .inl f3, .inl f4]) (G := [r1, g1, g2, g3, g4, g5, g6, g7, g8, g9, g10, g11, g12]) (G' := [r2, g1, g2, g3, g4, g5, g6, g7, g8, g9, g10, g11, g12]) (ρ := [2, 1, 3]) (φ := [0, 1]) (ψ := [0]) [some 0, some 1, none, none, none] [some 0, none, none, none, none, none, none, none, none, none, none, none, none] zyw_Law_setTime zyw_Chooser_weighStars zye_Chooser_weighStars (by decide +kernel) (zt_Law_setTime hr2) ⟨⟨_, rfl, fun _ => rfl⟩, ⟨_, rfl, fun _ => rfl⟩, trivial⟩ ⟨rfl, trivial⟩ rfl rfl rfl rfl rfl rfl rfl) zd145_6 zxt88 rfl (by decide) (by decide) rfl ?_
  refine zv_con hB zd145_9 rfl ?_
  refine zv_ist hB zd145_10 rfl rfl rfl ?_
  obtain ⟨q10, hq10, h⟩ := zi_bind h
  refine l0 _ _ _ _ _ _ _ q10 hq10 ?_
  show good 80 [.inr 1000, .inr 1000, .inr 1000, .inr 1000] [] [.inl f0, .inl f1, .inl f2, .inl f3, .inl q10.1] [q10.2.1, q10.2.2.1, q10.2.2.2.1, g3, g4, g5, g6, g7, g8, g9, q10.2.2.2.2, g11, g12]
  have hw := Option.some.inj h
  subst hw
  exact hvret _ _ _ _ zd145_80 trivial ⟨rfl, rfl, rfl⟩
/-! Arrays_fill_1000 ([II)V -/
-- names: 0 (0, 1000)('arg', 0)
-- fields: ; arrays: g0 = 0; out: [('g', 0)]
abbrev zy_Arrays_fill_1000 : zNL := (1, [], [], [], [(0, 0, 1000, 0)])
theorem zyw_Arrays_fill_1000 : zv_wf zy_Arrays_fill_1000 = true := by decide +kernel
theorem zye_Arrays_fill_1000 : zv_ek2 zy_Arrays_fill_1000 = true := by decide +kernel
def zf_Arrays_fill_1000_l0_b (x1 : Int) (x3 : Int) (rec : Int → (Int → Int) → Option ((Int → Int))) (x2 : Int) (g0 : (Int → Int)) : Option ((Int → Int)) := if x2 < x3 then (cond (zi_ix x2 1000) (rec (zi_w (x2 + 1)) (zv_up g0 x2 x1)) none) else (some g0)
def zf_Arrays_fill_1000_l0 (x1 : Int) (x3 : Int) : Nat → Int → (Int → Int) → Option ((Int → Int))
  | 0, _, _ => none
  | n + 1, x2, g0 => zf_Arrays_fill_1000_l0_b x1 x3 (zf_Arrays_fill_1000_l0 x1 x3 n) x2 g0
def zf_Arrays_fill_1000 (x1 : Int) (g0 : (Int → Int)) : Option ((Int → Int)) := (zf_Arrays_fill_1000_l0 x1 1000 zi_fu 0 g0).bind fun q3 => (some q3)
theorem zt_Arrays_fill_1000 {x1 : Int} {g0 : (Int → Int)} {o : (Int → Int)} (h : zf_Arrays_fill_1000 x1 g0 = some o) : zv_Fn z_TB z_cl z_KX zy_Arrays_fill_1000 zxm78 (0, 0) [.inr 0, .inl x1] [] [g0] none [] [o] := zv_meth (K := (z_KF20, z_KC20, z_KL20, z_KT20, [], [], [], none)) (FT := z_FT) (MT := z_MT) (n := 2) zxp78 (z_ks20 _ (fun _ h => List.mem_cons_of_mem _ h) _ _ _ _ (fun j r h _ => by cases h)) (fun _ _ => zs_KX_p) zyw_Arrays_fill_1000 (fun va F G h => by obtain ⟨rfl, _⟩ := h; rfl) (fun va F G h => by obtain ⟨rfl, _⟩ := h; rfl) rfl fun good va F G hB hret hvret hP => by
  obtain ⟨rfl, rfl, rfl⟩ := hP
  have l0 : ∀ (n : Nat) (x1 : Int) (x2 : Int) (x3 : Int) (g0 : (Int → Int)) (q : (Int → Int)), zf_Arrays_fill_1000_l0 x1 x3 n x2 g0 = some q → (good 20 [.inr 1000, .inr 1000, .inr 1000, .inr 1000] [] [] [q]) → good 5 [.inr 0, .inl x1, .inl x2, .inl x3] [] [] [g0] := by
    intro n
    induction n with
    | zero => intro x1 x2 x3 g0 q h; exact absurd (show none = some q from h) (fun h => by cases h)
    | succ n ih =>
      intro x1 x2 x3 g0 q h hK
      replace h : zf_Arrays_fill_1000_l0_b x1 x3 (zf_Arrays_fill_1000_l0 x1 x3 n) x2 g0 = some q := h
      unfold zf_Arrays_fill_1000_l0_b at h
      refine zv_ild hB zd78_5 rfl rfl ?_
      refine zv_ild hB zd78_6 rfl rfl ?_
      refine zv_cge hB zd78_7 rfl (fun hc1 => ?_) (fun hc1 => ?_)
      · rw [if_neg (Int.not_lt.mpr hc1)] at h
        have hq := Option.some.inj h
        subst hq
        refine zv_wk hB (L' := [.inr 1000, .inr 1000, .inr 1000, .inr 1000]) (F' := []) ⟨fun (h : zv_is (.inr 1000)) => (Nat.lt_irrefl 1000 h).elim, fun (h : zv_is (.inr 1000)) => (Nat.lt_irrefl 1000 h).elim, fun (h : zv_is (.inr 1000)) => (Nat.lt_irrefl 1000 h).elim, fun (h : zv_is (.inr 1000)) => (Nat.lt_irrefl 1000 h).elim, trivial⟩ trivial ?_
        exact hK
      · rw [if_pos hc1] at h
        refine zv_ald hB zd78_10 rfl rfl rfl ?_
        refine zv_ild hB zd78_11 rfl rfl ?_
        refine zv_ild hB zd78_12 rfl rfl ?_
        obtain ⟨c2, h⟩ := zi_if h
        refine zv_iast hB zd78_13 rfl rfl (zi_ix_ok c2).1 (zi_ix_ok c2).2 ?_
        refine zv_iincw hB zd78_14 rfl rfl ?_
        refine zv_goto hB zd78_17 rfl ?_
        exact ih _ _ _ _ q h hK
  unfold zf_Arrays_fill_1000 at h
  refine zv_con hB zd78_0 rfl ?_
  refine zv_ist hB zd78_1 rfl rfl rfl ?_
  refine zv_ald hB zd78_2 rfl rfl rfl ?_
  refine zv_alen (v := 1000) hB zd78_3 rfl rfl rfl rfl ?_
  refine zv_ist hB zd78_4 rfl rfl rfl ?_
  obtain ⟨q3, hq3, h⟩ := zi_bind h
  refine l0 _ _ _ _ _ q3 hq3 ?_
  show good 20 [.inr 1000, .inr 1000, .inr 1000, .inr 1000] [] [] [q3]
  have hw := Option.some.inj h
  subst hw
  exact hvret _ _ _ _ zd78_20 trivial ⟨rfl, rfl, rfl⟩
/-! Chooser_offer (II)V -/
-- names: 0 Chooser('arg', 0), 1 (0, 24)(0, 11, 4), 2 (0, 1000)(0, 11, 5), 3 (0, 24)(0, 11, 3), 4 (0, 1000)(0, 11, 6)
-- fields: ; arrays: g0 = 1, g1 = 2, g2 = 3, g3 = 4; out: [('g', 1), ('g', 3)]
abbrev zy_Chooser_offer : zNL := (5, [(0, 11)], [], [(0, 11, 4, 1), (0, 11, 5, 2), (0, 11, 3, 3), (0, 11, 6, 4)], [(1, 0, 24, 0), (2, 0, 1000, 1), (3, 0, 24, 2), (4, 0, 1000, 3)])
theorem zyw_Chooser_offer : zv_wf zy_Chooser_offer = true := by decide +kernel
theorem zye_Chooser_offer : zv_ek2 zy_Chooser_offer = true := by decide +kernel
def zf_Chooser_offer_l0_b (x1 : Int) (g0 : (Int → Int)) (g2 : (Int → Int)) (rec : Int → (Int → Int) → (Int → Int) → Option ((Int → Int) × (Int → Int))) (x3 : Int) (g1 : (Int → Int)) (g3 : (Int → Int)) : Option ((Int → Int) × (Int → Int)) := cond (zi_ix x1 24) (if x3 < (g0 x1) then (some (g1, g3)) else (cond (zi_ix (zi_w (x3 - (g0 x1))) 1000) (cond (zi_ix x3 1000) (if (g1 x3) < (zi_w ((g1 (zi_w (x3 - (g0 x1)))) + (g2 x1))) then (rec (zi_w (x3 + (-1))) (zv_up g1 x3 (zi_w ((g1 (zi_w (x3 - (g0 x1)))) + (g2 x1)))) (zv_up g3 x3 (zi_or (g3 (zi_w (x3 - (g0 x1)))) (zi_shl 1 x1)))) else (rec (zi_w (x3 + (-1))) g1 g3)) none) none)) none
def zf_Chooser_offer_l0 (x1 : Int) (g0 : (Int → Int)) (g2 : (Int → Int)) : Nat → Int → (Int → Int) → (Int → Int) → Option ((Int → Int) × (Int → Int))
  | 0, _, _, _ => none
  | n + 1, x3, g1, g3 => zf_Chooser_offer_l0_b x1 g0 g2 (zf_Chooser_offer_l0 x1 g0 g2 n) x3 g1 g3
def zf_Chooser_offer (x1 : Int) (x2 : Int) (g0 : (Int → Int)) (g1 : (Int → Int)) (g2 : (Int → Int)) (g3 : (Int → Int)) : Option ((Int → Int) × (Int → Int)) := (zf_Chooser_offer_l0 x1 g0 g2 zi_fu x2 g1 g3).bind fun q6 => (some (q6.1, q6.2))
theorem zd148_0 : decode zxm148.2.1 0 = .ok (.iload_n 2, 1) := by decide +kernel
theorem zd148_1 : decode zxm148.2.1 1 = .ok (.istore_n 3, 1) := by decide +kernel
theorem zd148_2 : decode zxm148.2.1 2 = .ok (.iload_n 3, 1) := by decide +kernel
theorem zd148_3 : decode zxm148.2.1 3 = .ok (.aload_n 0, 1) := by decide +kernel
theorem zd148_4 : decode zxm148.2.1 4 = .ok (.getfield 24, 3) := by decide +kernel
theorem zd148_7 : decode zxm148.2.1 7 = .ok (.iload_n 1, 1) := by decide +kernel
theorem zd148_8 : decode zxm148.2.1 8 = .ok (.iaload, 1) := by decide +kernel
theorem zd148_9 : decode zxm148.2.1 9 = .ok (.if_icmp .lt 79, 3) := by decide +kernel
theorem zd148_12 : decode zxm148.2.1 12 = .ok (.iload_n 3, 1) := by decide +kernel
theorem zd148_13 : decode zxm148.2.1 13 = .ok (.aload_n 0, 1) := by decide +kernel
theorem zd148_14 : decode zxm148.2.1 14 = .ok (.getfield 24, 3) := by decide +kernel
theorem zd148_17 : decode zxm148.2.1 17 = .ok (.iload_n 1, 1) := by decide +kernel
theorem zd148_18 : decode zxm148.2.1 18 = .ok (.iaload, 1) := by decide +kernel
theorem zd148_19 : decode zxm148.2.1 19 = .ok (.isub, 1) := by decide +kernel
theorem zd148_20 : decode zxm148.2.1 20 = .ok (.istore 4, 2) := by decide +kernel
theorem zd148_22 : decode zxm148.2.1 22 = .ok (.aload_n 0, 1) := by decide +kernel
theorem zd148_23 : decode zxm148.2.1 23 = .ok (.getfield 27, 3) := by decide +kernel
theorem zd148_26 : decode zxm148.2.1 26 = .ok (.iload 4, 2) := by decide +kernel
theorem zd148_28 : decode zxm148.2.1 28 = .ok (.iaload, 1) := by decide +kernel
theorem zd148_29 : decode zxm148.2.1 29 = .ok (.aload_n 0, 1) := by decide +kernel
theorem zd148_30 : decode zxm148.2.1 30 = .ok (.getfield 21, 3) := by decide +kernel
theorem zd148_33 : decode zxm148.2.1 33 = .ok (.iload_n 1, 1) := by decide +kernel
theorem zd148_34 : decode zxm148.2.1 34 = .ok (.iaload, 1) := by decide +kernel
theorem zd148_35 : decode zxm148.2.1 35 = .ok (.iadd, 1) := by decide +kernel
theorem zd148_36 : decode zxm148.2.1 36 = .ok (.aload_n 0, 1) := by decide +kernel
theorem zd148_37 : decode zxm148.2.1 37 = .ok (.getfield 27, 3) := by decide +kernel
theorem zd148_40 : decode zxm148.2.1 40 = .ok (.iload_n 3, 1) := by decide +kernel
theorem zd148_41 : decode zxm148.2.1 41 = .ok (.iaload, 1) := by decide +kernel
theorem zd148_42 : decode zxm148.2.1 42 = .ok (.if_icmp .le 40, 3) := by decide +kernel
theorem zd148_45 : decode zxm148.2.1 45 = .ok (.aload_n 0, 1) := by decide +kernel
theorem zd148_46 : decode zxm148.2.1 46 = .ok (.getfield 27, 3) := by decide +kernel
theorem zd148_49 : decode zxm148.2.1 49 = .ok (.iload_n 3, 1) := by decide +kernel
theorem zd148_50 : decode zxm148.2.1 50 = .ok (.aload_n 0, 1) := by decide +kernel
theorem zd148_51 : decode zxm148.2.1 51 = .ok (.getfield 27, 3) := by decide +kernel
theorem zd148_54 : decode zxm148.2.1 54 = .ok (.iload 4, 2) := by decide +kernel
theorem zd148_56 : decode zxm148.2.1 56 = .ok (.iaload, 1) := by decide +kernel
theorem zd148_57 : decode zxm148.2.1 57 = .ok (.aload_n 0, 1) := by decide +kernel
theorem zd148_58 : decode zxm148.2.1 58 = .ok (.getfield 21, 3) := by decide +kernel
theorem zd148_61 : decode zxm148.2.1 61 = .ok (.iload_n 1, 1) := by decide +kernel
theorem zd148_62 : decode zxm148.2.1 62 = .ok (.iaload, 1) := by decide +kernel
theorem zd148_63 : decode zxm148.2.1 63 = .ok (.iadd, 1) := by decide +kernel
theorem zd148_64 : decode zxm148.2.1 64 = .ok (.iastore, 1) := by decide +kernel
theorem zd148_65 : decode zxm148.2.1 65 = .ok (.aload_n 0, 1) := by decide +kernel
theorem zd148_66 : decode zxm148.2.1 66 = .ok (.getfield 30, 3) := by decide +kernel
theorem zd148_69 : decode zxm148.2.1 69 = .ok (.iload_n 3, 1) := by decide +kernel
theorem zd148_70 : decode zxm148.2.1 70 = .ok (.aload_n 0, 1) := by decide +kernel
theorem zd148_71 : decode zxm148.2.1 71 = .ok (.getfield 30, 3) := by decide +kernel
theorem zd148_74 : decode zxm148.2.1 74 = .ok (.iload 4, 2) := by decide +kernel
theorem zd148_76 : decode zxm148.2.1 76 = .ok (.iaload, 1) := by decide +kernel
theorem zd148_77 : decode zxm148.2.1 77 = .ok (.iconst 1, 1) := by decide +kernel
theorem zd148_78 : decode zxm148.2.1 78 = .ok (.iload_n 1, 1) := by decide +kernel
theorem zd148_79 : decode zxm148.2.1 79 = .ok (.ishl, 1) := by decide +kernel
theorem zd148_80 : decode zxm148.2.1 80 = .ok (.ior, 1) := by decide +kernel
theorem zd148_81 : decode zxm148.2.1 81 = .ok (.iastore, 1) := by decide +kernel
theorem zd148_82 : decode zxm148.2.1 82 = .ok (.iinc 3 (-1), 3) := by decide +kernel
theorem zd148_85 : decode zxm148.2.1 85 = .ok (.goto (-83), 3) := by decide +kernel
theorem zd148_88 : decode zxm148.2.1 88 = .ok (.return_, 1) := by decide +kernel
theorem zt_Chooser_offer {x1 : Int} {x2 : Int} {g0 : (Int → Int)} {g1 : (Int → Int)} {g2 : (Int → Int)} {g3 : (Int → Int)} {o : (Int → Int) × (Int → Int)} (h : zf_Chooser_offer x1 x2 g0 g1 g2 g3 = some o) : zv_Fn z_TB z_cl z_KX zy_Chooser_offer zxm148 (0, 0) [.inr 0, .inl x1, .inl x2] [] [g0, g1, g2, g3] none [] [g0, o.1, g2, o.2] := zv_meth (K := (z_KF1, z_KC1, z_KL1, z_KT1, [], [], [], none)) (FT := z_FT) (MT := z_MT) (n := 3) zxp148 (z_ks1 _ (fun _ h => List.mem_cons_of_mem _ h) _ _ _ _ (fun j r h _ => by cases h)) (fun _ _ => zs_KX_p) zyw_Chooser_offer (fun va F G h => by obtain ⟨rfl, _⟩ := h; rfl) (fun va F G h => by obtain ⟨rfl, _⟩ := h; rfl) rfl fun good va F G hB hret hvret hP => by
  obtain ⟨rfl, rfl, rfl⟩ := hP
  have l0 : ∀ (n : Nat) (x1 : Int) (x3 : Int) (g1 : (Int → Int)) (g3 : (Int → Int)) (q : (Int → Int) × (Int → Int)), zf_Chooser_offer_l0 x1 g0 g2 n x3 g1 g3 = some q → (good 88 [.inr 1000, .inr 1000, .inr 1000, .inr 1000, .inr 1000] [] [] [g0, q.1, g2, q.2]) → good 2 [.inr 0, .inl x1, .inr 1000, .inl x3, .inr 1000] [] [] [g0, g1, g2, g3] := by
    intro n
    induction n with
    | zero => intro x1 x3 g1 g3 q h; exact absurd (show none = some q from h) (fun h => by cases h)
    | succ n ih =>
      intro x1 x3 g1 g3 q h hK
      replace h : zf_Chooser_offer_l0_b x1 g0 g2 (zf_Chooser_offer_l0 x1 g0 g2 n) x3 g1 g3 = some q := h
      unfold zf_Chooser_offer_l0_b at h
      refine zv_ild hB zd148_2 rfl rfl ?_
      refine zv_ald hB zd148_3 rfl rfl rfl ?_
      refine zv_getr hB zd148_4 rfl ?_
      refine zv_ild hB zd148_7 rfl rfl ?_
      obtain ⟨c1, h⟩ := zi_if h
      refine zv_iald hB zd148_8 rfl rfl (zi_ix_ok c1).1 (zi_ix_ok c1).2 (fun _ _ => ?_)
      refine zv_clt hB zd148_9 rfl (fun hc2 => ?_) (fun hc2 => ?_)
      · rw [if_pos hc2] at h
        have hq := Option.some.inj h
        subst hq
        refine zv_wk hB (L' := [.inr 1000, .inr 1000, .inr 1000, .inr 1000, .inr 1000]) (F' := []) ⟨fun (h : zv_is (.inr 1000)) => (Nat.lt_irrefl 1000 h).elim, fun (h : zv_is (.inr 1000)) => (Nat.lt_irrefl 1000 h).elim, fun (h : zv_is (.inr 1000)) => (Nat.lt_irrefl 1000 h).elim, fun (h : zv_is (.inr 1000)) => (Nat.lt_irrefl 1000 h).elim, fun (h : zv_is (.inr 1000)) => (Nat.lt_irrefl 1000 h).elim, trivial⟩ trivial ?_
        exact hK
      · rw [if_neg (Int.not_lt.mpr hc2)] at h
        refine zv_ild hB zd148_12 rfl rfl ?_
        refine zv_ald hB zd148_13 rfl rfl rfl ?_
        refine zv_getr hB zd148_14 rfl ?_
        refine zv_ild hB zd148_17 rfl rfl ?_
        refine zv_iald hB zd148_18 rfl rfl (zi_ix_ok c1).1 (zi_ix_ok c1).2 (fun _ _ => ?_)
        refine zv_subw hB zd148_19 ?_
        refine zv_ist hB zd148_20 rfl rfl rfl ?_
        refine zv_ald hB zd148_22 rfl rfl rfl ?_
        refine zv_getr hB zd148_23 rfl ?_
        refine zv_ild hB zd148_26 rfl rfl ?_
        obtain ⟨c3, h⟩ := zi_if h
        refine zv_iald hB zd148_28 rfl rfl (zi_ix_ok c3).1 (zi_ix_ok c3).2 (fun _ _ => ?_)
        refine zv_ald hB zd148_29 rfl rfl rfl ?_
        refine zv_getr hB zd148_30 rfl ?_
        refine zv_ild hB zd148_33 rfl rfl ?_
        refine zv_iald hB zd148_34 rfl rfl (zi_ix_ok c1).1 (zi_ix_ok c1).2 (fun _ _ => ?_)
        refine zv_addw hB zd148_35 ?_
        refine zv_ald hB zd148_36 rfl rfl rfl ?_
        refine zv_getr hB zd148_37 rfl ?_
        refine zv_ild hB zd148_40 rfl rfl ?_
        obtain ⟨c4, h⟩ := zi_if h
        refine zv_iald hB zd148_41 rfl rfl (zi_ix_ok c4).1 (zi_ix_ok c4).2 (fun _ _ => ?_)
        refine zv_cle hB zd148_42 rfl (fun hc5 => ?_) (fun hc5 => ?_)
        · rw [if_neg (Int.not_lt.mpr hc5)] at h
          refine zv_iincw hB zd148_82 rfl rfl ?_
          refine zv_goto hB zd148_85 rfl ?_
          refine zv_wk hB (L' := [.inr 0, .inl x1, .inr 1000, .inl (zi_w (x3 + (-1))), .inr 1000]) (F' := []) ⟨fun _ => rfl, fun _ => rfl, fun (h : zv_is (.inr 1000)) => (Nat.lt_irrefl 1000 h).elim, fun _ => rfl, fun (h : zv_is (.inr 1000)) => (Nat.lt_irrefl 1000 h).elim, trivial⟩ trivial ?_
          exact ih _ _ _ _ q h hK
        · rw [if_pos hc5] at h
          refine zv_ald hB zd148_45 rfl rfl rfl ?_
          refine zv_getr hB zd148_46 rfl ?_
          refine zv_ild hB zd148_49 rfl rfl ?_
          refine zv_ald hB zd148_50 rfl rfl rfl ?_
          refine zv_getr hB zd148_51 rfl ?_
          refine zv_ild hB zd148_54 rfl rfl ?_
          refine zv_iald hB zd148_56 rfl rfl (zi_ix_ok c3).1 (zi_ix_ok c3).2 (fun _ _ => ?_)
          refine zv_ald hB zd148_57 rfl rfl rfl ?_
          refine zv_getr hB zd148_58 rfl ?_
          refine zv_ild hB zd148_61 rfl rfl ?_
          refine zv_iald hB zd148_62 rfl rfl (zi_ix_ok c1).1 (zi_ix_ok c1).2 (fun _ _ => ?_)
          refine zv_addw hB zd148_63 ?_
          refine zv_iast hB zd148_64 rfl rfl (zi_ix_ok c4).1 (zi_ix_ok c4).2 ?_
          refine zv_ald hB zd148_65 rfl rfl rfl ?_
          refine zv_getr hB zd148_66 rfl ?_
          refine zv_ild hB zd148_69 rfl rfl ?_
          refine zv_ald hB zd148_70 rfl rfl rfl ?_
          refine zv_getr hB zd148_71 rfl ?_
          refine zv_ild hB zd148_74 rfl rfl ?_
          refine zv_iald hB zd148_76 rfl rfl (zi_ix_ok c3).1 (zi_ix_ok c3).2 (fun _ _ => ?_)
          refine zv_con hB zd148_77 rfl ?_
          refine zv_ild hB zd148_78 rfl rfl ?_
          refine zv_shlw hB zd148_79 ?_
          refine zv_orw hB zd148_80 ?_
          refine zv_iast hB zd148_81 rfl rfl (zi_ix_ok c4).1 (zi_ix_ok c4).2 ?_
          refine zv_iincw hB zd148_82 rfl rfl ?_
          refine zv_goto hB zd148_85 rfl ?_
          refine zv_wk hB (L' := [.inr 0, .inl x1, .inr 1000, .inl (zi_w (x3 + (-1))), .inr 1000]) (F' := []) ⟨fun _ => rfl, fun _ => rfl, fun (h : zv_is (.inr 1000)) => (Nat.lt_irrefl 1000 h).elim, fun _ => rfl, fun (h : zv_is (.inr 1000)) => (Nat.lt_irrefl 1000 h).elim, trivial⟩ trivial ?_
          exact ih _ _ _ _ q h hK
  unfold zf_Chooser_offer at h
  refine zv_ild hB zd148_0 rfl rfl ?_
  refine zv_ist hB zd148_1 rfl rfl rfl ?_
  obtain ⟨q6, hq6, h⟩ := zi_bind h
  refine zv_wk hB (L' := [.inr 0, .inl x1, .inr 1000, .inl x2, .inr 1000]) (F' := []) ⟨fun _ => rfl, fun _ => rfl, fun (h : zv_is (.inr 1000)) => (Nat.lt_irrefl 1000 h).elim, fun _ => rfl, fun (h : zv_is (.inr 1000)) => (Nat.lt_irrefl 1000 h).elim, trivial⟩ trivial ?_
  refine l0 _ _ _ _ _ q6 hq6 ?_
  show good 88 [.inr 1000, .inr 1000, .inr 1000, .inr 1000, .inr 1000] [] [] [g0, q6.1, g2, q6.2]
  have hw := Option.some.inj h
  subst hw
  exact hvret _ _ _ _ zd148_88 trivial ⟨rfl, rfl, rfl⟩
/-! Chooser_bestSold (II)I -/
-- names: 0 Chooser('arg', 0), 1 (0, 1000)(0, 11, 5), 2 (0, 1000)(0, 11, 6), 3 (0, 24)(0, 11, 3), 4 (0, 24)(0, 11, 4)
-- fields: ; arrays: g0 = 1, g1 = 2, g2 = 3, g3 = 4; out: [('ret', None), ('g', 0), ('g', 1)]
abbrev zy_Chooser_bestSold : zNL := (5, [(0, 11)], [], [(0, 11, 5, 1), (0, 11, 6, 2), (0, 11, 3, 3), (0, 11, 4, 4)], [(1, 0, 1000, 0), (2, 0, 1000, 1), (3, 0, 24, 2), (4, 0, 24, 3)])
theorem zyw_Chooser_bestSold : zv_wf zy_Chooser_bestSold = true := by decide +kernel
theorem zye_Chooser_bestSold : zv_ek2 zy_Chooser_bestSold = true := by decide +kernel
def zf_Chooser_bestSold_l0_b (x1 : Int) (x2 : Int) (g2 : (Int → Int)) (g3 : (Int → Int)) (rec : Int → (Int → Int) → (Int → Int) → Option ((Int → Int) × (Int → Int))) (x3 : Int) (g0 : (Int → Int)) (g1 : (Int → Int)) : Option ((Int → Int) × (Int → Int)) := if x3 < 24 then (if (zi_and (zi_shr x1 x3) 1) = 0 then (rec (zi_w (x3 + 1)) g0 g1) else (cond (zi_ix x3 24) (if 0 < (g2 x3) then ((zf_Chooser_offer x3 x2 g3 g0 g2 g1).bind fun r7 => (rec (zi_w (x3 + 1)) r7.1 r7.2)) else (rec (zi_w (x3 + 1)) g0 g1)) none)) else (some (g0, g1))
def zf_Chooser_bestSold_l0 (x1 : Int) (x2 : Int) (g2 : (Int → Int)) (g3 : (Int → Int)) : Nat → Int → (Int → Int) → (Int → Int) → Option ((Int → Int) × (Int → Int))
  | 0, _, _, _ => none
  | n + 1, x3, g0, g1 => zf_Chooser_bestSold_l0_b x1 x2 g2 g3 (zf_Chooser_bestSold_l0 x1 x2 g2 g3 n) x3 g0 g1
def zf_Chooser_bestSold (x1 : Int) (x2 : Int) (g0 : (Int → Int)) (g1 : (Int → Int)) (g2 : (Int → Int)) (g3 : (Int → Int)) : Option (Int × (Int → Int) × (Int → Int)) := (zf_Arrays_fill_1000 0 g0).bind fun r1 => ((zf_Arrays_fill_1000 0 g1).bind fun r2 => ((zf_Chooser_bestSold_l0 x1 x2 g2 g3 zi_fu 0 r1 r2).bind fun q8 => (cond (zi_ix x2 1000) (some ((q8.2 x2), q8.1, q8.2)) none)))
theorem zd147_0 : decode zxm147.2.1 0 = .ok (.aload_n 0, 1) := by decide +kernel
theorem zd147_1 : decode zxm147.2.1 1 = .ok (.getfield 27, 3) := by decide +kernel
theorem zd147_4 : decode zxm147.2.1 4 = .ok (.iconst 0, 1) := by decide +kernel
theorem zd147_5 : decode zxm147.2.1 5 = .ok (.invokestatic 74, 3) := by decide +kernel
theorem zd147_8 : decode zxm147.2.1 8 = .ok (.aload_n 0, 1) := by decide +kernel
theorem zd147_9 : decode zxm147.2.1 9 = .ok (.getfield 30, 3) := by decide +kernel
theorem zd147_12 : decode zxm147.2.1 12 = .ok (.iconst 0, 1) := by decide +kernel
theorem zd147_13 : decode zxm147.2.1 13 = .ok (.invokestatic 74, 3) := by decide +kernel
theorem zd147_16 : decode zxm147.2.1 16 = .ok (.iconst 0, 1) := by decide +kernel
theorem zd147_17 : decode zxm147.2.1 17 = .ok (.istore_n 3, 1) := by decide +kernel
theorem zd147_18 : decode zxm147.2.1 18 = .ok (.iload_n 3, 1) := by decide +kernel
theorem zd147_19 : decode zxm147.2.1 19 = .ok (.bipush 24, 2) := by decide +kernel
theorem zd147_21 : decode zxm147.2.1 21 = .ok (.if_icmp .ge 32, 3) := by decide +kernel
theorem zd147_24 : decode zxm147.2.1 24 = .ok (.iload_n 1, 1) := by decide +kernel
theorem zd147_25 : decode zxm147.2.1 25 = .ok (.iload_n 3, 1) := by decide +kernel
theorem zd147_26 : decode zxm147.2.1 26 = .ok (.ishr, 1) := by decide +kernel
theorem zd147_27 : decode zxm147.2.1 27 = .ok (.iconst 1, 1) := by decide +kernel
theorem zd147_28 : decode zxm147.2.1 28 = .ok (.iand, 1) := by decide +kernel
theorem zd147_29 : decode zxm147.2.1 29 = .ok (.ifCond .eq 18, 3) := by decide +kernel
theorem zd147_32 : decode zxm147.2.1 32 = .ok (.aload_n 0, 1) := by decide +kernel
theorem zd147_33 : decode zxm147.2.1 33 = .ok (.getfield 21, 3) := by decide +kernel
theorem zd147_36 : decode zxm147.2.1 36 = .ok (.iload_n 3, 1) := by decide +kernel
theorem zd147_37 : decode zxm147.2.1 37 = .ok (.iaload, 1) := by decide +kernel
theorem zd147_38 : decode zxm147.2.1 38 = .ok (.ifCond .le 9, 3) := by decide +kernel
theorem zd147_41 : decode zxm147.2.1 41 = .ok (.aload_n 0, 1) := by decide +kernel
theorem zd147_42 : decode zxm147.2.1 42 = .ok (.iload_n 3, 1) := by decide +kernel
theorem zd147_43 : decode zxm147.2.1 43 = .ok (.iload_n 2, 1) := by decide +kernel
theorem zd147_44 : decode zxm147.2.1 44 = .ok (.invokevirtual 80, 3) := by decide +kernel
theorem zd147_47 : decode zxm147.2.1 47 = .ok (.iinc 3 1, 3) := by decide +kernel
theorem zd147_50 : decode zxm147.2.1 50 = .ok (.goto (-32), 3) := by decide +kernel
theorem zd147_53 : decode zxm147.2.1 53 = .ok (.aload_n 0, 1) := by decide +kernel
theorem zd147_54 : decode zxm147.2.1 54 = .ok (.getfield 30, 3) := by decide +kernel
theorem zd147_57 : decode zxm147.2.1 57 = .ok (.iload_n 2, 1) := by decide +kernel
theorem zd147_58 : decode zxm147.2.1 58 = .ok (.iaload, 1) := by decide +kernel
theorem zd147_59 : decode zxm147.2.1 59 = .ok (.ireturn, 1) := by decide +kernel
theorem zt_Chooser_bestSold {x1 : Int} {x2 : Int} {g0 : (Int → Int)} {g1 : (Int → Int)} {g2 : (Int → Int)} {g3 : (Int → Int)} {o : Int × (Int → Int) × (Int → Int)} (h : zf_Chooser_bestSold x1 x2 g0 g1 g2 g3 = some o) : zv_Fn z_TB z_cl z_KX zy_Chooser_bestSold zxm147 (1, 60) [.inr 0, .inl x1, .inl x2] [] [g0, g1, g2, g3] (some o.1) [] [o.2.1, o.2.2, g2, g3] := zv_meth (K := (z_KF1, z_KC1, z_KL1, z_KT1, [], [], [], none)) (FT := z_FT) (MT := z_MT) (n := 3) zxp147 (z_ks1 _ (fun _ h => List.mem_cons_of_mem _ h) _ _ _ _ (fun j r h _ => by cases h)) (fun _ _ => zs_KX_p) zyw_Chooser_bestSold (fun va F G h => by obtain ⟨rfl, _⟩ := h; rfl) (fun va F G h => by obtain ⟨rfl, _⟩ := h; rfl) rfl fun good va F G hB hret hvret hP => by
  obtain ⟨rfl, rfl, rfl⟩ := hP
  have l0 : ∀ (n : Nat) (x1 : Int) (x2 : Int) (x3 : Int) (g0 : (Int → Int)) (g1 : (Int → Int)) (q : (Int → Int) × (Int → Int)), zf_Chooser_bestSold_l0 x1 x2 g2 g3 n x3 g0 g1 = some q → (good 53 [.inr 0, .inr 1000, .inl x2, .inr 1000] [] [] [q.1, q.2, g2, g3]) → good 18 [.inr 0, .inl x1, .inl x2, .inl x3] [] [] [g0, g1, g2, g3] := by
    intro n
    induction n with
    | zero => intro x1 x2 x3 g0 g1 q h; exact absurd (show none = some q from h) (fun h => by cases h)
    | succ n ih =>
      intro x1 x2 x3 g0 g1 q h hK
      replace h : zf_Chooser_bestSold_l0_b x1 x2 g2 g3 (zf_Chooser_bestSold_l0 x1 x2 g2 g3 n) x3 g0 g1 = some q := h
      unfold zf_Chooser_bestSold_l0_b at h
      refine zv_ild hB zd147_18 rfl rfl ?_
      refine zv_con hB zd147_19 rfl ?_
      refine zv_cge hB zd147_21 rfl (fun hc3 => ?_) (fun hc3 => ?_)
      · rw [if_neg (Int.not_lt.mpr hc3)] at h
        have hq := Option.some.inj h
        subst hq
        refine zv_wk hB (L' := [.inr 0, .inr 1000, .inl x2, .inr 1000]) (F' := []) ⟨fun _ => rfl, fun (h : zv_is (.inr 1000)) => (Nat.lt_irrefl 1000 h).elim, fun _ => rfl, fun (h : zv_is (.inr 1000)) => (Nat.lt_irrefl 1000 h).elim, trivial⟩ trivial ?_
        exact hK
      · rw [if_pos hc3] at h
        refine zv_ild hB zd147_24 rfl rfl ?_
        refine zv_ild hB zd147_25 rfl rfl ?_
        refine zv_shrw hB zd147_26 ?_
        refine zv_con hB zd147_27 rfl ?_
        refine zv_andw hB zd147_28 ?_
        refine zv_zeq hB zd147_29 rfl (fun hc4 => ?_) (fun hc4 => ?_)
        · rw [if_pos hc4] at h
          refine zv_iincw hB zd147_47 rfl rfl ?_
          refine zv_goto hB zd147_50 rfl ?_
          exact ih _ _ _ _ _ q h hK
        · rw [if_neg hc4] at h
          refine zv_ald hB zd147_32 rfl rfl rfl ?_
          refine zv_getr hB zd147_33 rfl ?_
          refine zv_ild hB zd147_36 rfl rfl ?_
          obtain ⟨c5, h⟩ := zi_if h
          refine zv_iald hB zd147_37 rfl rfl (zi_ix_ok c5).1 (zi_ix_ok c5).2 (fun _ _ => ?_)
          refine zv_zle hB zd147_38 rfl (fun hc6 => ?_) (fun hc6 => ?_)
          · rw [if_neg (Int.not_lt.mpr hc6)] at h
            refine zv_iincw hB zd147_47 rfl rfl ?_
            refine zv_goto hB zd147_50 rfl ?_
            exact ih _ _ _ _ _ q h hK
          · rw [if_pos hc6] at h
            refine zv_ald hB zd147_41 rfl rfl rfl ?_
            refine zv_ild hB zd147_42 rfl rfl ?_
            refine zv_ild hB zd147_43 rfl rfl ?_
            obtain ⟨r7, hr7, h⟩ := zi_bind h
            refine zv_cv hB (zv_emq (va2 := [.inr 0, .inl x3, .inl x2]) (F := []) (F' := []) (G := [g0, g1, g2, g3]) (G' := [r7.1, r7.2, g2, g3]) (ρ := [0, 4, 1, 3, 2]) (φ := []) (ψ := [3, 0, 2, 1]) [] [some 1, some 3, some 2, some 0] zyw_Chooser_offer zyw_Chooser_bestSold zye_Chooser_bestSold (by decide +kernel) (zt_Chooser_offer hr7) trivial ⟨rfl, rfl, rfl, rfl, trivial⟩ rfl rfl rfl rfl rfl rfl rfl) zd147_44 zxt148 rfl (by decide) (by decide) rfl ?_
            refine zv_iincw hB zd147_47 rfl rfl ?_
            refine zv_goto hB zd147_50 rfl ?_
            exact ih _ _ _ _ _ q h hK
  unfold zf_Chooser_bestSold at h
  refine zv_ald hB zd147_0 rfl rfl rfl ?_
  refine zv_getr hB zd147_1 rfl ?_
  refine zv_con hB zd147_4 rfl ?_
  obtain ⟨r1, hr1, h⟩ := zi_bind h
  refine zv_cs hB (zv_emq (va2 := [.inr 1, .inl 0]) (F := []) (F' := []) (G := [g0, g1, g2, g3]) (G' := [r1, g1, g2, g3]) (ρ := [1]) (φ := []) (ψ := [0]) [] [some 0, none, none, none] zyw_Arrays_fill_1000 zyw_Chooser_bestSold zye_Chooser_bestSold (by decide +kernel) (zt_Arrays_fill_1000 hr1) trivial ⟨rfl, trivial⟩ rfl rfl rfl rfl rfl rfl rfl) zd147_5 zxt78 rfl (by decide) (by decide) rfl ?_
  refine zv_ald hB zd147_8 rfl rfl rfl ?_
  refine zv_getr hB zd147_9 rfl ?_
  refine zv_con hB zd147_12 rfl ?_
  obtain ⟨r2, hr2, h⟩ := zi_bind h
  refine zv_cs hB (zv_emq (va2 := [.inr 2, .inl 0]) (F := []) (F' := []) (G := [r1, g1, g2, g3]) (G' := [r1, r2, g2, g3]) (ρ := [2]) (φ := []) (ψ := [1]) [] [none, some 0, none, none] zyw_Arrays_fill_1000 zyw_Chooser_bestSold zye_Chooser_bestSold (by decide +kernel) (zt_Arrays_fill_1000 hr2) trivial ⟨rfl, trivial⟩ rfl rfl rfl rfl rfl rfl rfl) zd147_13 zxt78 rfl (by decide) (by decide) rfl ?_
  refine zv_con hB zd147_16 rfl ?_
  refine zv_ist hB zd147_17 rfl rfl rfl ?_
  obtain ⟨q8, hq8, h⟩ := zi_bind h
  refine l0 _ _ _ _ _ _ q8 hq8 ?_
  show good 53 [.inr 0, .inr 1000, .inl x2, .inr 1000] [] [] [q8.1, q8.2, g2, g3]
  refine zv_ald hB zd147_53 rfl rfl rfl ?_
  refine zv_getr hB zd147_54 rfl ?_
  refine zv_ild hB zd147_57 rfl rfl ?_
  obtain ⟨c9, h⟩ := zi_if h
  refine zv_iald hB zd147_58 rfl rfl (zi_ix_ok c9).1 (zi_ix_ok c9).2 (fun _ _ => ?_)
  have hw := Option.some.inj h
  subst hw
  exact hret _ _ _ _ _ zd147_59 (by trivial) ⟨rfl, rfl, rfl⟩
/-! Chooser_worthOf (I)I -/
-- names: 0 Chooser('arg', 0), 1 (0, 24)(0, 11, 3)
-- fields: ; arrays: g0 = 1; out: [('ret', None)]
abbrev zy_Chooser_worthOf : zNL := (2, [(0, 11)], [], [(0, 11, 3, 1)], [(1, 0, 24, 0)])
theorem zyw_Chooser_worthOf : zv_wf zy_Chooser_worthOf = true := by decide +kernel
theorem zye_Chooser_worthOf : zv_ek2 zy_Chooser_worthOf = true := by decide +kernel
def zf_Chooser_worthOf_l0_b (x1 : Int) (g0 : (Int → Int)) (rec : Int → Int → Option (Int)) (x2 : Int) (x3 : Int) : Option (Int) := if x3 < 24 then (cond (zi_ix x3 24) (rec (zi_w (x2 + (zi_w ((zi_and (zi_shr x1 x3) 1) * (g0 x3))))) (zi_w (x3 + 1))) none) else (some x2)
def zf_Chooser_worthOf_l0 (x1 : Int) (g0 : (Int → Int)) : Nat → Int → Int → Option (Int)
  | 0, _, _ => none
  | n + 1, x2, x3 => zf_Chooser_worthOf_l0_b x1 g0 (zf_Chooser_worthOf_l0 x1 g0 n) x2 x3
def zf_Chooser_worthOf (x1 : Int) (g0 : (Int → Int)) : Option (Int) := (zf_Chooser_worthOf_l0 x1 g0 zi_fu 0 0).bind fun q3 => (some q3)
theorem zd149_0 : decode zxm149.2.1 0 = .ok (.iconst 0, 1) := by decide +kernel
theorem zd149_1 : decode zxm149.2.1 1 = .ok (.istore_n 2, 1) := by decide +kernel
theorem zd149_2 : decode zxm149.2.1 2 = .ok (.iconst 0, 1) := by decide +kernel
theorem zd149_3 : decode zxm149.2.1 3 = .ok (.istore_n 3, 1) := by decide +kernel
theorem zd149_4 : decode zxm149.2.1 4 = .ok (.iload_n 3, 1) := by decide +kernel
theorem zd149_5 : decode zxm149.2.1 5 = .ok (.bipush 24, 2) := by decide +kernel
theorem zd149_7 : decode zxm149.2.1 7 = .ok (.if_icmp .ge 24, 3) := by decide +kernel
theorem zd149_10 : decode zxm149.2.1 10 = .ok (.iload_n 2, 1) := by decide +kernel
theorem zd149_11 : decode zxm149.2.1 11 = .ok (.iload_n 1, 1) := by decide +kernel
theorem zd149_12 : decode zxm149.2.1 12 = .ok (.iload_n 3, 1) := by decide +kernel
theorem zd149_13 : decode zxm149.2.1 13 = .ok (.ishr, 1) := by decide +kernel
theorem zd149_14 : decode zxm149.2.1 14 = .ok (.iconst 1, 1) := by decide +kernel
theorem zd149_15 : decode zxm149.2.1 15 = .ok (.iand, 1) := by decide +kernel
theorem zd149_16 : decode zxm149.2.1 16 = .ok (.aload_n 0, 1) := by decide +kernel
theorem zd149_17 : decode zxm149.2.1 17 = .ok (.getfield 21, 3) := by decide +kernel
theorem zd149_20 : decode zxm149.2.1 20 = .ok (.iload_n 3, 1) := by decide +kernel
theorem zd149_21 : decode zxm149.2.1 21 = .ok (.iaload, 1) := by decide +kernel
theorem zd149_22 : decode zxm149.2.1 22 = .ok (.imul, 1) := by decide +kernel
theorem zd149_23 : decode zxm149.2.1 23 = .ok (.iadd, 1) := by decide +kernel
theorem zd149_24 : decode zxm149.2.1 24 = .ok (.istore_n 2, 1) := by decide +kernel
theorem zd149_25 : decode zxm149.2.1 25 = .ok (.iinc 3 1, 3) := by decide +kernel
theorem zd149_28 : decode zxm149.2.1 28 = .ok (.goto (-24), 3) := by decide +kernel
theorem zd149_31 : decode zxm149.2.1 31 = .ok (.iload_n 2, 1) := by decide +kernel
theorem zd149_32 : decode zxm149.2.1 32 = .ok (.ireturn, 1) := by decide +kernel
theorem zt_Chooser_worthOf {x1 : Int} {g0 : (Int → Int)} {o : Int} (h : zf_Chooser_worthOf x1 g0 = some o) : zv_Fn z_TB z_cl z_KX zy_Chooser_worthOf zxm149 (0, 0) [.inr 0, .inl x1] [] [g0] (some o) [] [g0] := zv_meth (K := (z_KF1, z_KC1, z_KL1, z_KT1, [], [], [], none)) (FT := z_FT) (MT := z_MT) (n := 2) zxp149 (z_ks1 _ (fun _ h => List.mem_cons_of_mem _ h) _ _ _ _ (fun j r h _ => by cases h)) (fun _ _ => zs_KX_p) zyw_Chooser_worthOf (fun va F G h => by obtain ⟨rfl, _⟩ := h; rfl) (fun va F G h => by obtain ⟨rfl, _⟩ := h; rfl) rfl fun good va F G hB hret hvret hP => by
  obtain ⟨rfl, rfl, rfl⟩ := hP
  have l0 : ∀ (n : Nat) (x1 : Int) (x2 : Int) (x3 : Int) (q : Int), zf_Chooser_worthOf_l0 x1 g0 n x2 x3 = some q → (good 31 [.inr 1000, .inr 1000, .inl q, .inr 1000] [] [] [g0]) → good 4 [.inr 0, .inl x1, .inl x2, .inl x3] [] [] [g0] := by
    intro n
    induction n with
    | zero => intro x1 x2 x3 q h; exact absurd (show none = some q from h) (fun h => by cases h)
    | succ n ih =>
      intro x1 x2 x3 q h hK
      replace h : zf_Chooser_worthOf_l0_b x1 g0 (zf_Chooser_worthOf_l0 x1 g0 n) x2 x3 = some q := h
      unfold zf_Chooser_worthOf_l0_b at h
      refine zv_ild hB zd149_4 rfl rfl ?_
      refine zv_con hB zd149_5 rfl ?_
      refine zv_cge hB zd149_7 rfl (fun hc1 => ?_) (fun hc1 => ?_)
      · rw [if_neg (Int.not_lt.mpr hc1)] at h
        have hq := Option.some.inj h
        subst hq
        refine zv_wk hB (L' := [.inr 1000, .inr 1000, .inl x2, .inr 1000]) (F' := []) ⟨fun (h : zv_is (.inr 1000)) => (Nat.lt_irrefl 1000 h).elim, fun (h : zv_is (.inr 1000)) => (Nat.lt_irrefl 1000 h).elim, fun _ => rfl, fun (h : zv_is (.inr 1000)) => (Nat.lt_irrefl 1000 h).elim, trivial⟩ trivial ?_
        exact hK
      · rw [if_pos hc1] at h
        refine zv_ild hB zd149_10 rfl rfl ?_
        refine zv_ild hB zd149_11 rfl rfl ?_
        refine zv_ild hB zd149_12 rfl rfl ?_
        refine zv_shrw hB zd149_13 ?_
        refine zv_con hB zd149_14 rfl ?_
        refine zv_andw hB zd149_15 ?_
        refine zv_ald hB zd149_16 rfl rfl rfl ?_
        refine zv_getr hB zd149_17 rfl ?_
        refine zv_ild hB zd149_20 rfl rfl ?_
        obtain ⟨c2, h⟩ := zi_if h
        refine zv_iald hB zd149_21 rfl rfl (zi_ix_ok c2).1 (zi_ix_ok c2).2 (fun _ _ => ?_)
        refine zv_mulw hB zd149_22 ?_
        refine zv_addw hB zd149_23 ?_
        refine zv_ist hB zd149_24 rfl rfl rfl ?_
        refine zv_iincw hB zd149_25 rfl rfl ?_
        refine zv_goto hB zd149_28 rfl ?_
        exact ih _ _ _ q h hK
  unfold zf_Chooser_worthOf at h
  refine zv_con hB zd149_0 rfl ?_
  refine zv_ist hB zd149_1 rfl rfl rfl ?_
  refine zv_con hB zd149_2 rfl ?_
  refine zv_ist hB zd149_3 rfl rfl rfl ?_
  obtain ⟨q3, hq3, h⟩ := zi_bind h
  refine l0 _ _ _ _ q3 hq3 ?_
  show good 31 [.inr 1000, .inr 1000, .inl q3, .inr 1000] [] [] [g0]
  refine zv_ild hB zd149_31 rfl rfl ?_
  have hw := Option.some.inj h
  subst hw
  exact hret _ _ _ _ _ zd149_32 (by trivial) ⟨rfl, rfl, rfl⟩
/-! Chooser_weightOf (I)I -/
-- names: 0 Chooser('arg', 0), 1 (0, 24)(0, 11, 4)
-- fields: ; arrays: g0 = 1; out: [('ret', None)]
abbrev zy_Chooser_weightOf : zNL := (2, [(0, 11)], [], [(0, 11, 4, 1)], [(1, 0, 24, 0)])
theorem zyw_Chooser_weightOf : zv_wf zy_Chooser_weightOf = true := by decide +kernel
theorem zye_Chooser_weightOf : zv_ek2 zy_Chooser_weightOf = true := by decide +kernel
def zf_Chooser_weightOf_l0_b (x1 : Int) (g0 : (Int → Int)) (rec : Int → Int → Option (Int)) (x2 : Int) (x3 : Int) : Option (Int) := if x3 < 24 then (cond (zi_ix x3 24) (rec (zi_w (x2 + (zi_w ((zi_and (zi_shr x1 x3) 1) * (g0 x3))))) (zi_w (x3 + 1))) none) else (some x2)
def zf_Chooser_weightOf_l0 (x1 : Int) (g0 : (Int → Int)) : Nat → Int → Int → Option (Int)
  | 0, _, _ => none
  | n + 1, x2, x3 => zf_Chooser_weightOf_l0_b x1 g0 (zf_Chooser_weightOf_l0 x1 g0 n) x2 x3
def zf_Chooser_weightOf (x1 : Int) (g0 : (Int → Int)) : Option (Int) := (zf_Chooser_weightOf_l0 x1 g0 zi_fu 0 0).bind fun q3 => (some q3)
theorem zd150_0 : decode zxm150.2.1 0 = .ok (.iconst 0, 1) := by decide +kernel
theorem zd150_1 : decode zxm150.2.1 1 = .ok (.istore_n 2, 1) := by decide +kernel
theorem zd150_2 : decode zxm150.2.1 2 = .ok (.iconst 0, 1) := by decide +kernel
theorem zd150_3 : decode zxm150.2.1 3 = .ok (.istore_n 3, 1) := by decide +kernel
theorem zd150_4 : decode zxm150.2.1 4 = .ok (.iload_n 3, 1) := by decide +kernel
theorem zd150_5 : decode zxm150.2.1 5 = .ok (.bipush 24, 2) := by decide +kernel
theorem zd150_7 : decode zxm150.2.1 7 = .ok (.if_icmp .ge 24, 3) := by decide +kernel
theorem zd150_10 : decode zxm150.2.1 10 = .ok (.iload_n 2, 1) := by decide +kernel
theorem zd150_11 : decode zxm150.2.1 11 = .ok (.iload_n 1, 1) := by decide +kernel
theorem zd150_12 : decode zxm150.2.1 12 = .ok (.iload_n 3, 1) := by decide +kernel
theorem zd150_13 : decode zxm150.2.1 13 = .ok (.ishr, 1) := by decide +kernel
theorem zd150_14 : decode zxm150.2.1 14 = .ok (.iconst 1, 1) := by decide +kernel
theorem zd150_15 : decode zxm150.2.1 15 = .ok (.iand, 1) := by decide +kernel
theorem zd150_16 : decode zxm150.2.1 16 = .ok (.aload_n 0, 1) := by decide +kernel
theorem zd150_17 : decode zxm150.2.1 17 = .ok (.getfield 24, 3) := by decide +kernel
theorem zd150_20 : decode zxm150.2.1 20 = .ok (.iload_n 3, 1) := by decide +kernel
theorem zd150_21 : decode zxm150.2.1 21 = .ok (.iaload, 1) := by decide +kernel
theorem zd150_22 : decode zxm150.2.1 22 = .ok (.imul, 1) := by decide +kernel
theorem zd150_23 : decode zxm150.2.1 23 = .ok (.iadd, 1) := by decide +kernel
theorem zd150_24 : decode zxm150.2.1 24 = .ok (.istore_n 2, 1) := by decide +kernel
theorem zd150_25 : decode zxm150.2.1 25 = .ok (.iinc 3 1, 3) := by decide +kernel
theorem zd150_28 : decode zxm150.2.1 28 = .ok (.goto (-24), 3) := by decide +kernel
theorem zd150_31 : decode zxm150.2.1 31 = .ok (.iload_n 2, 1) := by decide +kernel
theorem zd150_32 : decode zxm150.2.1 32 = .ok (.ireturn, 1) := by decide +kernel
theorem zt_Chooser_weightOf {x1 : Int} {g0 : (Int → Int)} {o : Int} (h : zf_Chooser_weightOf x1 g0 = some o) : zv_Fn z_TB z_cl z_KX zy_Chooser_weightOf zxm150 (0, 0) [.inr 0, .inl x1] [] [g0] (some o) [] [g0] := zv_meth (K := (z_KF1, z_KC1, z_KL1, z_KT1, [], [], [], none)) (FT := z_FT) (MT := z_MT) (n := 2) zxp150 (z_ks1 _ (fun _ h => List.mem_cons_of_mem _ h) _ _ _ _ (fun j r h _ => by cases h)) (fun _ _ => zs_KX_p) zyw_Chooser_weightOf (fun va F G h => by obtain ⟨rfl, _⟩ := h; rfl) (fun va F G h => by obtain ⟨rfl, _⟩ := h; rfl) rfl fun good va F G hB hret hvret hP => by
  obtain ⟨rfl, rfl, rfl⟩ := hP
  have l0 : ∀ (n : Nat) (x1 : Int) (x2 : Int) (x3 : Int) (q : Int), zf_Chooser_weightOf_l0 x1 g0 n x2 x3 = some q → (good 31 [.inr 1000, .inr 1000, .inl q, .inr 1000] [] [] [g0]) → good 4 [.inr 0, .inl x1, .inl x2, .inl x3] [] [] [g0] := by
    intro n
    induction n with
    | zero => intro x1 x2 x3 q h; exact absurd (show none = some q from h) (fun h => by cases h)
    | succ n ih =>
      intro x1 x2 x3 q h hK
      replace h : zf_Chooser_weightOf_l0_b x1 g0 (zf_Chooser_weightOf_l0 x1 g0 n) x2 x3 = some q := h
      unfold zf_Chooser_weightOf_l0_b at h
      refine zv_ild hB zd150_4 rfl rfl ?_
      refine zv_con hB zd150_5 rfl ?_
      refine zv_cge hB zd150_7 rfl (fun hc1 => ?_) (fun hc1 => ?_)
      · rw [if_neg (Int.not_lt.mpr hc1)] at h
        have hq := Option.some.inj h
        subst hq
        refine zv_wk hB (L' := [.inr 1000, .inr 1000, .inl x2, .inr 1000]) (F' := []) ⟨fun (h : zv_is (.inr 1000)) => (Nat.lt_irrefl 1000 h).elim, fun (h : zv_is (.inr 1000)) => (Nat.lt_irrefl 1000 h).elim, fun _ => rfl, fun (h : zv_is (.inr 1000)) => (Nat.lt_irrefl 1000 h).elim, trivial⟩ trivial ?_
        exact hK
      · rw [if_pos hc1] at h
        refine zv_ild hB zd150_10 rfl rfl ?_
        refine zv_ild hB zd150_11 rfl rfl ?_
        refine zv_ild hB zd150_12 rfl rfl ?_
        refine zv_shrw hB zd150_13 ?_
        refine zv_con hB zd150_14 rfl ?_
        refine zv_andw hB zd150_15 ?_
        refine zv_ald hB zd150_16 rfl rfl rfl ?_
        refine zv_getr hB zd150_17 rfl ?_
        refine zv_ild hB zd150_20 rfl rfl ?_
        obtain ⟨c2, h⟩ := zi_if h
        refine zv_iald hB zd150_21 rfl rfl (zi_ix_ok c2).1 (zi_ix_ok c2).2 (fun _ _ => ?_)
        refine zv_mulw hB zd150_22 ?_
        refine zv_addw hB zd150_23 ?_
        refine zv_ist hB zd150_24 rfl rfl rfl ?_
        refine zv_iincw hB zd150_25 rfl rfl ?_
        refine zv_goto hB zd150_28 rfl ?_
        exact ih _ _ _ q h hK
  unfold zf_Chooser_weightOf at h
  refine zv_con hB zd150_0 rfl ?_
  refine zv_ist hB zd150_1 rfl rfl rfl ?_
  refine zv_con hB zd150_2 rfl ?_
  refine zv_ist hB zd150_3 rfl rfl rfl ?_
  obtain ⟨q3, hq3, h⟩ := zi_bind h
  refine l0 _ _ _ _ q3 hq3 ?_
  show good 31 [.inr 1000, .inr 1000, .inl q3, .inr 1000] [] [] [g0]
  refine zv_ild hB zd150_31 rfl rfl ?_
  have hw := Option.some.inj h
  subst hw
  exact hret _ _ _ _ _ zd150_32 (by trivial) ⟨rfl, rfl, rfl⟩
end
section
/-! Methods as functions, and that they do what these do. -/
/-! X_sold (II)I -/
-- names: 0 StarTales('arg', 0), 1 Chooser(0, 0, 17), 2 Sky(0, 0, 0), 3 Law(0, 0, 7), 4 (0, 13)(3, 4, 12), 5 (0, 24)(1, 11, 3), 6 (0, 24)(1, 11, 4), 7 (0, 24)(2, 1, 3), 8 (0, 24)(2, 1, 2), 9 (0, 24)(2, 1, 1), 10 (0, 14)(3, 4, 3), 11 (0, 14)(3, 4, 5), 12 (0, 14)(3, 4, 6), 13 (0, 200)(3, 4, 0), 14 (0, 40)(3, 4, 13), 15 (0, 200)(3, 4, 1), 16 (0, 14)(3, 4, 4), 17 (0, 1000)(1, 11, 5), 18 (0, 1000)(1, 11, 6)
-- fields: f0 = 0.ruling_, f1 = 2.hour_, f2 = 2.night_, f3 = 2.told_, f4 = 3.clauses_, f5 = 3.answer_; arrays: g0 = 4, g1 = 5, g2 = 6, g3 = 7, g4 = 8, g5 = 9, g6 = 10, g7 = 11, g8 = 12, g9 = 13, g10 = 14, g11 = 15, g12 = 16, g13 = 17, g14 = 18; out: [('ret', None), ('f', 5), ('g', 0), ('g', 1), ('g', 2), ('g', 10), ('g', 13), ('g', 14)]
abbrev zy_X_sold : zNL := (19, [(0, 0), (1, 11), (2, 1), (3, 4)], [(0, 0, 7, 0), (2, 1, 6, 1), (2, 1, 7, 2), (2, 1, 0, 3), (3, 4, 7, 4), (3, 4, 14, 5)], [(0, 0, 17, 1), (0, 0, 0, 2), (3, 4, 12, 4), (1, 11, 3, 5), (1, 11, 4, 6), (2, 1, 3, 7), (2, 1, 2, 8), (2, 1, 1, 9), (3, 4, 3, 10), (3, 4, 5, 11), (3, 4, 6, 12), (3, 4, 0, 13), (3, 4, 13, 14), (3, 4, 1, 15), (3, 4, 4, 16), (1, 11, 5, 17), (1, 11, 6, 18)], [(4, 0, 13, 0), (5, 0, 24, 1), (6, 0, 24, 2), (7, 0, 24, 3), (8, 0, 24, 4), (9, 0, 24, 5), (10, 0, 14, 6), (11, 0, 14, 7), (12, 0, 14, 8), (13, 0, 200, 9), (14, 0, 40, 10), (15, 0, 200, 11), (16, 0, 14, 12), (17, 0, 1000, 13), (18, 0, 1000, 14)])
theorem zyw_X_sold : zv_wf zy_X_sold = true := by decide +kernel
theorem zye_X_sold : zv_ek2 zy_X_sold = true := by decide +kernel
def zf_X_sold (x1 : Int) (x2 : Int) (f1 : Int) (f2 : Int) (f3 : Int) (f4 : Int) (f5 : Int) (g0 : (Int → Int)) (g1 : (Int → Int)) (g2 : (Int → Int)) (g3 : (Int → Int)) (g4 : (Int → Int)) (g5 : (Int → Int)) (g6 : (Int → Int)) (g7 : (Int → Int)) (g8 : (Int → Int)) (g9 : (Int → Int)) (g10 : (Int → Int)) (g11 : (Int → Int)) (g12 : (Int → Int)) (g13 : (Int → Int)) (g14 : (Int → Int)) : Option (Int × Int × (Int → Int) × (Int → Int) × (Int → Int) × (Int → Int) × (Int → Int) × (Int → Int)) := (zf_X_isWithin x1 0 999).bind fun r1 => (if r1 = 0 then (some ((-1), f5, g0, g1, g2, g10, g13, g14)) else ((zf_X_isWithin x2 0 2).bind fun r3 => (if r3 = 0 then (some ((-1), f5, g0, g1, g2, g10, g13, g14)) else ((zf_Chooser_weighStars f1 f2 f3 f4 f5 g0 g1 g2 g3 g4 g5 g6 g7 g8 g9 g10 g11 g12).bind fun r5 => ((zf_Chooser_bestSold f3 x1 g13 g14 r5.2.2.1 r5.2.2.2.1).bind fun r6 => (if x2 = 0 then ((zf_Chooser_worthOf r6.1 r5.2.2.1).bind fun r8 => (some (r8, r5.1, r5.2.1, r5.2.2.1, r5.2.2.2.1, r5.2.2.2.2, r6.2.1, r6.2.2))) else (if x2 = 1 then (some (r6.1, r5.1, r5.2.1, r5.2.2.1, r5.2.2.2.1, r5.2.2.2.2, r6.2.1, r6.2.2)) else ((zf_Chooser_weightOf r6.1 r5.2.2.2.1).bind fun r10 => (some (r10, r5.1, r5.2.1, r5.2.2.1, r5.2.2.2.1, r5.2.2.2.2, r6.2.1, r6.2.2))))))))))
theorem zd144_0 : decode zxm144.2.1 0 = .ok (.iload_n 1, 1) := by decide +kernel
theorem zd144_1 : decode zxm144.2.1 1 = .ok (.iconst 0, 1) := by decide +kernel
theorem zd144_2 : decode zxm144.2.1 2 = .ok (.sipush 999, 3) := by decide +kernel
theorem zd144_5 : decode zxm144.2.1 5 = .ok (.invokestatic 126, 3) := by decide +kernel
theorem zd144_8 : decode zxm144.2.1 8 = .ok (.ifCond .eq 12, 3) := by decide +kernel
theorem zd144_11 : decode zxm144.2.1 11 = .ok (.iload_n 2, 1) := by decide +kernel
theorem zd144_12 : decode zxm144.2.1 12 = .ok (.iconst 0, 1) := by decide +kernel
theorem zd144_13 : decode zxm144.2.1 13 = .ok (.iconst 2, 1) := by decide +kernel
theorem zd144_14 : decode zxm144.2.1 14 = .ok (.invokestatic 126, 3) := by decide +kernel
theorem zd144_17 : decode zxm144.2.1 17 = .ok (.ifCond .ne 5, 3) := by decide +kernel
theorem zd144_20 : decode zxm144.2.1 20 = .ok (.iconst (-1), 1) := by decide +kernel
theorem zd144_21 : decode zxm144.2.1 21 = .ok (.ireturn, 1) := by decide +kernel
theorem zd144_22 : decode zxm144.2.1 22 = .ok (.aload_n 0, 1) := by decide +kernel
theorem zd144_23 : decode zxm144.2.1 23 = .ok (.getfield 119, 3) := by decide +kernel
theorem zd144_26 : decode zxm144.2.1 26 = .ok (.aload_n 0, 1) := by decide +kernel
theorem zd144_27 : decode zxm144.2.1 27 = .ok (.getfield 10, 3) := by decide +kernel
theorem zd144_30 : decode zxm144.2.1 30 = .ok (.aload_n 0, 1) := by decide +kernel
theorem zd144_31 : decode zxm144.2.1 31 = .ok (.getfield 46, 3) := by decide +kernel
theorem zd144_34 : decode zxm144.2.1 34 = .ok (.invokevirtual 311, 3) := by decide +kernel
theorem zd144_37 : decode zxm144.2.1 37 = .ok (.aload_n 0, 1) := by decide +kernel
theorem zd144_38 : decode zxm144.2.1 38 = .ok (.getfield 119, 3) := by decide +kernel
theorem zd144_41 : decode zxm144.2.1 41 = .ok (.aload_n 0, 1) := by decide +kernel
theorem zd144_42 : decode zxm144.2.1 42 = .ok (.getfield 10, 3) := by decide +kernel
theorem zd144_45 : decode zxm144.2.1 45 = .ok (.getfield 134, 3) := by decide +kernel
theorem zd144_48 : decode zxm144.2.1 48 = .ok (.iload_n 1, 1) := by decide +kernel
theorem zd144_49 : decode zxm144.2.1 49 = .ok (.invokevirtual 314, 3) := by decide +kernel
theorem zd144_52 : decode zxm144.2.1 52 = .ok (.istore_n 3, 1) := by decide +kernel
theorem zd144_53 : decode zxm144.2.1 53 = .ok (.iload_n 2, 1) := by decide +kernel
theorem zd144_54 : decode zxm144.2.1 54 = .ok (.lookupswitch 37 #[(0, 26), (1, 35)], 26) := by decide +kernel
theorem zd144_80 : decode zxm144.2.1 80 = .ok (.aload_n 0, 1) := by decide +kernel
theorem zd144_81 : decode zxm144.2.1 81 = .ok (.getfield 119, 3) := by decide +kernel
theorem zd144_84 : decode zxm144.2.1 84 = .ok (.iload_n 3, 1) := by decide +kernel
theorem zd144_85 : decode zxm144.2.1 85 = .ok (.invokevirtual 317, 3) := by decide +kernel
theorem zd144_88 : decode zxm144.2.1 88 = .ok (.ireturn, 1) := by decide +kernel
theorem zd144_89 : decode zxm144.2.1 89 = .ok (.iload_n 3, 1) := by decide +kernel
theorem zd144_90 : decode zxm144.2.1 90 = .ok (.ireturn, 1) := by decide +kernel
theorem zd144_91 : decode zxm144.2.1 91 = .ok (.aload_n 0, 1) := by decide +kernel
theorem zd144_92 : decode zxm144.2.1 92 = .ok (.getfield 119, 3) := by decide +kernel
theorem zd144_95 : decode zxm144.2.1 95 = .ok (.iload_n 3, 1) := by decide +kernel
theorem zd144_96 : decode zxm144.2.1 96 = .ok (.invokevirtual 320, 3) := by decide +kernel
theorem zd144_99 : decode zxm144.2.1 99 = .ok (.ireturn, 1) := by decide +kernel
theorem zt_X_sold {x1 : Int} {x2 : Int} {f1 : Int} {f2 : Int} {f3 : Int} {f4 : Int} {f5 : Int} {g0 : (Int → Int)} {g1 : (Int → Int)} {g2 : (Int → Int)} {g3 : (Int → Int)} {g4 : (Int → Int)} {g5 : (Int → Int)} {g6 : (Int → Int)} {g7 : (Int → Int)} {g8 : (Int → Int)} {g9 : (Int → Int)} {g10 : (Int → Int)} {g11 : (Int → Int)} {g12 : (Int → Int)} {g13 : (Int → Int)} {g14 : (Int → Int)} {o : Int × Int × (Int → Int) × (Int → Int) × (Int → Int) × (Int → Int) × (Int → Int) × (Int → Int)} (h : zf_X_sold x1 x2 f1 f2 f3 f4 f5 g0 g1 g2 g3 g4 g5 g6 g7 g8 g9 g10 g11 g12 g13 g14 = some o) : zv_Fn z_TB z_cl z_KX zy_X_sold zxm144 (4, 240) [.inr 0, .inl x1, .inl x2] [.inr 3, .inl f1, .inl f2, .inl f3, .inl f4, .inl f5] [g0, g1, g2, g3, g4, g5, g6, g7, g8, g9, g10, g11, g12, g13, g14] (some o.1) [.inr 3, .inl f1, .inl f2, .inl f3, .inl f4, .inl o.2.1] [o.2.2.1, o.2.2.2.1, o.2.2.2.2.1, g3, g4, g5, g6, g7, g8, g9, o.2.2.2.2.2.1, g11, g12, o.2.2.2.2.2.2.1, o.2.2.2.2.2.2.2] := zv_meth (K := (z_KF0, z_KC0, z_KL0, z_KT0, [], [], [], none)) (FT := z_FT) (MT := z_MT) (n := 3) zxp144 (z_ks0 _ (fun _ h => List.mem_cons_of_mem _ h) _ _ _ _ (fun j r h _ => by cases h)) (fun _ _ => zs_KX_p) zyw_X_sold (fun va F G h => by obtain ⟨rfl, _⟩ := h; rfl) (fun va F G h => by obtain ⟨rfl, _⟩ := h; rfl) rfl fun good va F G hB hret hvret hP => by
  obtain ⟨rfl, rfl, rfl⟩ := hP
  unfold zf_X_sold at h
  refine zv_ild hB zd144_0 rfl rfl ?_
  refine zv_con hB zd144_1 rfl ?_
  refine zv_con hB zd144_2 rfl ?_
  obtain ⟨r1, hr1, h⟩ := zi_bind h
  refine zv_cs hB (zv_emq (va2 := [.inl x1, .inl 0, .inl 999]) (F := [.inr 3, .inl f1, .inl f2, .inl f3, .inl f4, .inl f5]) (F' := [.inr 3, .inl f1, .inl f2, .inl f3, .inl f4, .inl f5]) (G := [g0, g1, g2, g3, g4, g5, g6, g7, g8, g9, g10, g11, g12, g13, g14]) (G' := [g0, g1, g2, g3, g4, g5, g6, g7, g8, g9, g10, g11, g12, g13, g14]) (ρ := []) (φ := []) (ψ := []) [none, none, none, none, none, none] [none, none, none, none, none, none, none, none, none, none, none, none, none, none, none] zyw_X_isWithin zyw_X_sold zye_X_sold (by decide +kernel) (zt_X_isWithin hr1) trivial trivial rfl rfl rfl rfl rfl rfl rfl) zd144_5 zxt15 rfl (by decide) (by decide) rfl ?_
  refine zv_zeq hB zd144_8 rfl (fun hc2 => ?_) (fun hc2 => ?_)
  · rw [if_pos hc2] at h
    refine zv_con hB zd144_20 rfl ?_
    have hw := Option.some.inj h
    subst hw
    exact hret _ _ _ _ _ zd144_21 (by trivial) ⟨rfl, rfl, rfl⟩
  · rw [if_neg hc2] at h
    refine zv_ild hB zd144_11 rfl rfl ?_
    refine zv_con hB zd144_12 rfl ?_
    refine zv_con hB zd144_13 rfl ?_
    obtain ⟨r3, hr3, h⟩ := zi_bind h
    refine zv_cs hB (zv_emq (va2 := [.inl x2, .inl 0, .inl 2]) (F := [.inr 3, .inl f1, .inl f2, .inl f3, .inl f4, .inl f5]) (F' := [.inr 3, .inl f1, .inl f2, .inl f3, .inl f4, .inl f5]) (G := [g0, g1, g2, g3, g4, g5, g6, g7, g8, g9, g10, g11, g12, g13, g14]) (G' := [g0, g1, g2, g3, g4, g5, g6, g7, g8, g9, g10, g11, g12, g13, g14]) (ρ := []) (φ := []) (ψ := []) [none, none, none, none, none, none] [none, none, none, none, none, none, none, none, none, none, none, none, none, none, none] zyw_X_isWithin zyw_X_sold zye_X_sold (by decide +kernel) (zt_X_isWithin hr3) trivial trivial rfl rfl rfl rfl rfl rfl rfl) zd144_14 zxt15 rfl (by decide) (by decide) rfl ?_
    refine zv_zne hB zd144_17 rfl (fun hc4 => ?_) (fun hc4 => ?_)
    · rw [if_neg hc4] at h
      refine zv_ald hB zd144_22 rfl rfl rfl ?_
      refine zv_getr hB zd144_23 rfl ?_
      refine zv_ald hB zd144_26 rfl rfl rfl ?_
      refine zv_getr hB zd144_27 rfl ?_
      refine zv_ald hB zd144_30 rfl rfl rfl ?_
      refine zv_getq hB zd144_31 rfl rfl rfl ?_
      obtain ⟨r5, hr5, h⟩ := zi_bind h
      refine zv_cv hB (zv_emq (va2 := [.inr 1, .inr 2, .inr 3]) (F := [.inr 3, .inl f1, .inl f2, .inl f3, .inl f4, .inl f5]) (F' := [.inr 3, .inl f1, .inl f2, .inl f3, .inl f4, .inl r5.1]) (G := [g0, g1, g2, g3, g4, g5, g6, g7, g8, g9, g10, g11, g12, g13, g14]) (G' := [r5.2.1, r5.2.2.1, r5.2.2.2.1, g3, g4, g5, g6, g7, g8, g9, r5.2.2.2.2, g11, g12, g13, g14]) (ρ := [1, 2, 3, 4, 5, 6, 7, 8, 9, 10, 11, 12, 13, 14, 15, 16]) (φ := [1, 2, 3, 4, 5]) (ψ := [0, 1, 2, 3, 4, 5, 6, 7, 8, 9, 10, 11, 12]) [none, some 0, some 1, some 2, some 3, some 4] [some 0, some 1, some 2, some 3, some 4, some 5, some 6, some 7, some 8, some 9, some 10, some 11, some 12, none, none] zyw_Chooser_weighStars zyw_X_sold zye_X_sold (by decide +kernel) (zt_Chooser_weighStars hr5) ⟨⟨_, rfl, fun _ => rfl⟩, ⟨_, rfl, fun _ => rfl⟩, ⟨_, rfl, fun _ => rfl⟩, ⟨_, rfl, fun _ => rfl⟩, ⟨_, rfl, fun _ => rfl⟩, trivial⟩ ⟨rfl, rfl, rfl, rfl, rfl, rfl, rfl, rfl, rfl, rfl, rfl, rfl, rfl, trivial⟩ rfl rfl rfl rfl rfl rfl rfl) zd144_34 zxt145 rfl (by decide) (by decide) rfl ?_
      refine zv_ald hB zd144_37 rfl rfl rfl ?_
      refine zv_getr hB zd144_38 rfl ?_
      refine zv_ald hB zd144_41 rfl rfl rfl ?_
      refine zv_getr hB zd144_42 rfl ?_
      refine zv_getf hB zd144_45 rfl rfl (fun _ _ => ?_)
      refine zv_ild hB zd144_48 rfl rfl ?_
      obtain ⟨r6, hr6, h⟩ := zi_bind h
      refine zv_cv hB (zv_emq (va2 := [.inr 1, .inl f3, .inl x1]) (F := [.inr 3, .inl f1, .inl f2, .inl f3, .inl f4, .inl r5.1]) (F' := [.inr 3, .inl f1, .inl f2, .inl f3, .inl f4, .inl r5.1]) (G := [r5.2.1, r5.2.2.1, r5.2.2.2.1, g3, g4, g5, g6, g7, g8, g9, r5.2.2.2.2, g11, g12, g13, g14]) (G' := [r5.2.1, r5.2.2.1, r5.2.2.2.1, g3, g4, g5, g6, g7, g8, g9, r5.2.2.2.2, g11, g12, r6.2.1, r6.2.2]) (ρ := [1, 17, 18, 5, 6]) (φ := []) (ψ := [13, 14, 1, 2]) [none, none, none, none, none, none] [none, some 2, some 3, none, none, none, none, none, none, none, none, none, none, some 0, some 1] zyw_Chooser_bestSold zyw_X_sold zye_X_sold (by decide +kernel) (zt_Chooser_bestSold hr6) trivial ⟨rfl, rfl, rfl, rfl, trivial⟩ rfl rfl rfl rfl rfl rfl rfl) zd144_49 zxt147 rfl (by decide) (by decide) rfl ?_
      refine zv_ist hB zd144_52 rfl rfl rfl ?_
      refine zv_ild hB zd144_53 rfl rfl ?_
      refine zv_lsw hB zd144_54 rfl ?_
      refine ⟨fun hc7 => ⟨_, rfl, ?_⟩, fun hc7 => ?_⟩
      · replace hc7 : x2 = 0 := hc7
        rw [if_pos hc7] at h
        refine zv_ald hB zd144_80 rfl rfl rfl ?_
        refine zv_getr hB zd144_81 rfl ?_
        refine zv_ild hB zd144_84 rfl rfl ?_
        obtain ⟨r8, hr8, h⟩ := zi_bind h
        refine zv_cv hB (zv_emq (va2 := [.inr 1, .inl r6.1]) (F := [.inr 3, .inl f1, .inl f2, .inl f3, .inl f4, .inl r5.1]) (F' := [.inr 3, .inl f1, .inl f2, .inl f3, .inl f4, .inl r5.1]) (G := [r5.2.1, r5.2.2.1, r5.2.2.2.1, g3, g4, g5, g6, g7, g8, g9, r5.2.2.2.2, g11, g12, r6.2.1, r6.2.2]) (G' := [r5.2.1, r5.2.2.1, r5.2.2.2.1, g3, g4, g5, g6, g7, g8, g9, r5.2.2.2.2, g11, g12, r6.2.1, r6.2.2]) (ρ := [1, 5]) (φ := []) (ψ := [1]) [none, none, none, none, none, none] [none, some 0, none, none, none, none, none, none, none, none, none, none, none, none, none] zyw_Chooser_worthOf zyw_X_sold zye_X_sold (by decide +kernel) (zt_Chooser_worthOf hr8) trivial ⟨rfl, trivial⟩ rfl rfl rfl rfl rfl rfl rfl) zd144_85 zxt149 rfl (by decide) (by decide) rfl ?_
        have hw := Option.some.inj h
        subst hw
        exact hret _ _ _ _ _ zd144_88 (by trivial) ⟨rfl, rfl, rfl⟩
      replace hc7 : x2 ≠ 0 := hc7
      rw [if_neg hc7] at h
      refine ⟨fun hc9 => ⟨_, rfl, ?_⟩, fun hc9 => ?_⟩
      · replace hc9 : x2 = 1 := hc9
        rw [if_pos hc9] at h
        refine zv_ild hB zd144_89 rfl rfl ?_
        have hw := Option.some.inj h
        subst hw
        exact hret _ _ _ _ _ zd144_90 (by trivial) ⟨rfl, rfl, rfl⟩
      replace hc9 : x2 ≠ 1 := hc9
      rw [if_neg hc9] at h
      refine ⟨_, rfl, ?_⟩
      refine zv_ald hB zd144_91 rfl rfl rfl ?_
      refine zv_getr hB zd144_92 rfl ?_
      refine zv_ild hB zd144_95 rfl rfl ?_
      obtain ⟨r10, hr10, h⟩ := zi_bind h
      refine zv_cv hB (zv_emq (va2 := [.inr 1, .inl r6.1]) (F := [.inr 3, .inl f1, .inl f2, .inl f3, .inl f4, .inl r5.1]) (F' := [.inr 3, .inl f1, .inl f2, .inl f3, .inl f4, .inl r5.1]) (G := [r5.2.1, r5.2.2.1, r5.2.2.2.1, g3, g4, g5, g6, g7, g8, g9, r5.2.2.2.2, g11, g12, r6.2.1, r6.2.2]) (G' := [r5.2.1, r5.2.2.1, r5.2.2.2.1, g3, g4, g5, g6, g7, g8, g9, r5.2.2.2.2, g11, g12, r6.2.1, r6.2.2]) (ρ := [1, 6]) (φ := []) (ψ := [2]) [none, none, none, none, none, none] [none, none, some 0, none, none, none, none, none, none, none, none, none, none, none, none] zyw_Chooser_weightOf zyw_X_sold zye_X_sold (by decide +kernel) (zt_Chooser_weightOf hr10) trivial ⟨rfl, trivial⟩ rfl rfl rfl rfl rfl rfl rfl) zd144_96 zxt150 rfl (by decide) (by decide) rfl ?_
      have hw := Option.some.inj h
      subst hw
      exact hret _ _ _ _ _ zd144_99 (by trivial) ⟨rfl, rfl, rfl⟩
    · rw [if_pos hc4] at h
      refine zv_con hB zd144_20 rfl ?_
      have hw := Option.some.inj h
      subst hw
      exact hret _ _ _ _ _ zd144_21 (by trivial) ⟨rfl, rfl, rfl⟩
/-! Sea_goFrom (II)I -/
-- names: 0 Sea('arg', 0), 1 (0, 12)(0, 2, 0)
-- fields: ; arrays: g0 = 1; out: [('ret', None)]
abbrev zy_Sea_goFrom : zNL := (2, [(0, 2)], [], [(0, 2, 0, 1)], [(1, 0, 12, 0)])
theorem zyw_Sea_goFrom : zv_wf zy_Sea_goFrom = true := by decide +kernel
theorem zye_Sea_goFrom : zv_ek2 zy_Sea_goFrom = true := by decide +kernel
def zf_Sea_goFrom (x1 : Int) (x2 : Int) (g0 : (Int → Int)) : Option (Int) := (zf_X_columnOf x1).bind fun r1 => ((zf_X_rowOf x1).bind fun r2 => (if x2 = 1 then ((zf_X_isPlace (zi_rem (zi_w (r1 + 1)) 24) r2).bind fun r4 => (if r4 = 0 then (some (-1)) else ((zf_X_placeOf (zi_rem (zi_w (r1 + 1)) 24) r2).bind fun r6 => ((zf_Sea_isLand r6 g0).bind fun r7 => (if r7 = 0 then ((zf_X_placeOf (zi_rem (zi_w (r1 + 1)) 24) r2).bind fun r9 => (some r9)) else (some (-1))))))) else (if x2 = 2 then ((zf_X_isPlace (zi_rem (zi_w ((zi_w (r1 + 24)) - 1)) 24) r2).bind fun r11 => (if r11 = 0 then (some (-1)) else ((zf_X_placeOf (zi_rem (zi_w ((zi_w (r1 + 24)) - 1)) 24) r2).bind fun r13 => ((zf_Sea_isLand r13 g0).bind fun r14 => (if r14 = 0 then ((zf_X_placeOf (zi_rem (zi_w ((zi_w (r1 + 24)) - 1)) 24) r2).bind fun r16 => (some r16)) else (some (-1))))))) else (if x2 = 3 then ((zf_X_isPlace r1 (zi_w (r2 + 1))).bind fun r18 => (if r18 = 0 then (some (-1)) else ((zf_X_placeOf r1 (zi_w (r2 + 1))).bind fun r20 => ((zf_Sea_isLand r20 g0).bind fun r21 => (if r21 = 0 then ((zf_X_placeOf r1 (zi_w (r2 + 1))).bind fun r23 => (some r23)) else (some (-1))))))) else (if x2 = 4 then ((zf_X_isPlace r1 (zi_w (r2 + (-1)))).bind fun r25 => (if r25 = 0 then (some (-1)) else ((zf_X_placeOf r1 (zi_w (r2 + (-1)))).bind fun r27 => ((zf_Sea_isLand r27 g0).bind fun r28 => (if r28 = 0 then ((zf_X_placeOf r1 (zi_w (r2 + (-1)))).bind fun r30 => (some r30)) else (some (-1))))))) else ((zf_X_isPlace r1 r2).bind fun r31 => (if r31 = 0 then (some (-1)) else ((zf_X_placeOf r1 r2).bind fun r33 => ((zf_Sea_isLand r33 g0).bind fun r34 => (if r34 = 0 then ((zf_X_placeOf r1 r2).bind fun r36 => (some r36)) else (some (-1))))))))))))
theorem zd154_0 : decode zxm154.2.1 0 = .ok (.iload_n 1, 1) := by decide +kernel
theorem zd154_1 : decode zxm154.2.1 1 = .ok (.invokestatic 26, 3) := by decide +kernel
theorem zd154_4 : decode zxm154.2.1 4 = .ok (.istore_n 3, 1) := by decide +kernel
theorem zd154_5 : decode zxm154.2.1 5 = .ok (.iload_n 1, 1) := by decide +kernel
theorem zd154_6 : decode zxm154.2.1 6 = .ok (.invokestatic 22, 3) := by decide +kernel
theorem zd154_9 : decode zxm154.2.1 9 = .ok (.istore 4, 2) := by decide +kernel
theorem zd154_11 : decode zxm154.2.1 11 = .ok (.iload_n 2, 1) := by decide +kernel
theorem zd154_12 : decode zxm154.2.1 12 = .ok (.tableswitch 67 1 4 #[32, 42, 55, 61], 32) := by decide +kernel
theorem zd154_44 : decode zxm154.2.1 44 = .ok (.iload_n 3, 1) := by decide +kernel
theorem zd154_45 : decode zxm154.2.1 45 = .ok (.iconst 1, 1) := by decide +kernel
theorem zd154_46 : decode zxm154.2.1 46 = .ok (.iadd, 1) := by decide +kernel
theorem zd154_47 : decode zxm154.2.1 47 = .ok (.bipush 24, 2) := by decide +kernel
theorem zd154_49 : decode zxm154.2.1 49 = .ok (.irem, 1) := by decide +kernel
theorem zd154_50 : decode zxm154.2.1 50 = .ok (.istore_n 3, 1) := by decide +kernel
theorem zd154_51 : decode zxm154.2.1 51 = .ok (.goto 28, 3) := by decide +kernel
theorem zd154_54 : decode zxm154.2.1 54 = .ok (.iload_n 3, 1) := by decide +kernel
theorem zd154_55 : decode zxm154.2.1 55 = .ok (.bipush 24, 2) := by decide +kernel
theorem zd154_57 : decode zxm154.2.1 57 = .ok (.iadd, 1) := by decide +kernel
theorem zd154_58 : decode zxm154.2.1 58 = .ok (.iconst 1, 1) := by decide +kernel
theorem zd154_59 : decode zxm154.2.1 59 = .ok (.isub, 1) := by decide +kernel
theorem zd154_60 : decode zxm154.2.1 60 = .ok (.bipush 24, 2) := by decide +kernel
theorem zd154_62 : decode zxm154.2.1 62 = .ok (.irem, 1) := by decide +kernel
theorem zd154_63 : decode zxm154.2.1 63 = .ok (.istore_n 3, 1) := by decide +kernel
theorem zd154_64 : decode zxm154.2.1 64 = .ok (.goto 15, 3) := by decide +kernel
theorem zd154_67 : decode zxm154.2.1 67 = .ok (.iinc 4 1, 3) := by decide +kernel
theorem zd154_70 : decode zxm154.2.1 70 = .ok (.goto 9, 3) := by decide +kernel
theorem zd154_73 : decode zxm154.2.1 73 = .ok (.iinc 4 (-1), 3) := by decide +kernel
theorem zd154_76 : decode zxm154.2.1 76 = .ok (.goto 3, 3) := by decide +kernel
theorem zd154_79 : decode zxm154.2.1 79 = .ok (.iload_n 3, 1) := by decide +kernel
theorem zd154_80 : decode zxm154.2.1 80 = .ok (.iload 4, 2) := by decide +kernel
theorem zd154_82 : decode zxm154.2.1 82 = .ok (.invokestatic 38, 3) := by decide +kernel
theorem zd154_85 : decode zxm154.2.1 85 = .ok (.ifCond .eq 16, 3) := by decide +kernel
theorem zd154_88 : decode zxm154.2.1 88 = .ok (.aload_n 0, 1) := by decide +kernel
theorem zd154_89 : decode zxm154.2.1 89 = .ok (.iload_n 3, 1) := by decide +kernel
theorem zd154_90 : decode zxm154.2.1 90 = .ok (.iload 4, 2) := by decide +kernel
theorem zd154_92 : decode zxm154.2.1 92 = .ok (.invokestatic 42, 3) := by decide +kernel
theorem zd154_95 : decode zxm154.2.1 95 = .ok (.invokevirtual 46, 3) := by decide +kernel
theorem zd154_98 : decode zxm154.2.1 98 = .ok (.ifCond .eq 7, 3) := by decide +kernel
theorem zd154_101 : decode zxm154.2.1 101 = .ok (.iconst (-1), 1) := by decide +kernel
theorem zd154_102 : decode zxm154.2.1 102 = .ok (.goto 9, 3) := by decide +kernel
theorem zd154_105 : decode zxm154.2.1 105 = .ok (.iload_n 3, 1) := by decide +kernel
theorem zd154_106 : decode zxm154.2.1 106 = .ok (.iload 4, 2) := by decide +kernel
theorem zd154_108 : decode zxm154.2.1 108 = .ok (.invokestatic 42, 3) := by decide +kernel
theorem zd154_111 : decode zxm154.2.1 111 = .ok (.ireturn, 1) := by decide +kernel
theorem zt_Sea_goFrom {x1 : Int} {x2 : Int} {g0 : (Int → Int)} {o : Int} (h : zf_Sea_goFrom x1 x2 g0 = some o) : zv_Fn z_TB z_cl z_KX zy_Sea_goFrom zxm154 (2, 120) [.inr 0, .inl x1, .inl x2] [] [g0] (some o) [] [g0] := zv_meth (K := (z_KF7, z_KC7, z_KL7, z_KT7, [], [], [], none)) (FT := z_FT) (MT := z_MT) (n := 3) zxp154 (z_ks7 _ (fun _ h => List.mem_cons_of_mem _ h) _ _ _ _ (fun j r h _ => by cases h)) (fun _ _ => zs_KX_p) zyw_Sea_goFrom (fun va F G h => by obtain ⟨rfl, _⟩ := h; rfl) (fun va F G h => by obtain ⟨rfl, _⟩ := h; rfl) rfl fun good va F G hB hret hvret hP => by
  obtain ⟨rfl, rfl, rfl⟩ := hP
  unfold zf_Sea_goFrom at h
  refine zv_ild hB zd154_0 rfl rfl ?_
  obtain ⟨r1, hr1, h⟩ := zi_bind h
  refine zv_cs hB (zv_emq (va2 := [.inl x1]) (F := []) (F' := []) (G := [g0]) (G' := [g0]) (ρ := []) (φ := []) (ψ := []) [] [none] zyw_X_columnOf zyw_Sea_goFrom zye_Sea_goFrom (by decide +kernel) (zt_X_columnOf hr1) trivial trivial rfl rfl rfl rfl rfl rfl rfl) zd154_1 zxt31 rfl (by decide) (by decide) rfl ?_
  refine zv_ist hB zd154_4 rfl rfl rfl ?_
  refine zv_ild hB zd154_5 rfl rfl ?_
  obtain ⟨r2, hr2, h⟩ := zi_bind h
  refine zv_cs hB (zv_emq (va2 := [.inl x1]) (F := []) (F' := []) (G := [g0]) (G' := [g0]) (ρ := []) (φ := []) (ψ := []) [] [none] zyw_X_rowOf zyw_Sea_goFrom zye_Sea_goFrom (by decide +kernel) (zt_X_rowOf hr2) trivial trivial rfl rfl rfl rfl rfl rfl rfl) zd154_6 zxt30 rfl (by decide) (by decide) rfl ?_
  refine zv_ist hB zd154_9 rfl rfl rfl ?_
  refine zv_ild hB zd154_11 rfl rfl ?_
  refine zv_tsw hB zd154_12 rfl ?_
  refine ⟨fun hc3 => ⟨_, rfl, ?_⟩, fun hc3 => ?_⟩
  · replace hc3 : x2 = 1 := hc3
    rw [if_pos hc3] at h
    refine zv_ild hB zd154_44 rfl rfl ?_
    refine zv_con hB zd154_45 rfl ?_
    refine zv_addw hB zd154_46 ?_
    refine zv_con hB zd154_47 rfl ?_
    refine zv_remw hB zd154_49 (by decide) ?_
    refine zv_ist hB zd154_50 rfl rfl rfl ?_
    refine zv_goto hB zd154_51 rfl ?_
    refine zv_ild hB zd154_79 rfl rfl ?_
    refine zv_ild hB zd154_80 rfl rfl ?_
    obtain ⟨r4, hr4, h⟩ := zi_bind h
    refine zv_cs hB (zv_emq (va2 := [.inl (zi_rem (zi_w (r1 + 1)) 24), .inl r2]) (F := []) (F' := []) (G := [g0]) (G' := [g0]) (ρ := []) (φ := []) (ψ := []) [] [none] zyw_X_isPlace zyw_Sea_goFrom zye_Sea_goFrom (by decide +kernel) (zt_X_isPlace hr4) trivial trivial rfl rfl rfl rfl rfl rfl rfl) zd154_82 zxt16 rfl (by decide) (by decide) rfl ?_
    refine zv_zeq hB zd154_85 rfl (fun hc5 => ?_) (fun hc5 => ?_)
    · rw [if_pos hc5] at h
      refine zv_con hB zd154_101 rfl ?_
      refine zv_goto hB zd154_102 rfl ?_
      have hw := Option.some.inj h
      subst hw
      exact hret _ _ _ _ _ zd154_111 (by trivial) ⟨rfl, rfl, rfl⟩
    · rw [if_neg hc5] at h
      refine zv_ald hB zd154_88 rfl rfl rfl ?_
      refine zv_ild hB zd154_89 rfl rfl ?_
      refine zv_ild hB zd154_90 rfl rfl ?_
      obtain ⟨r6, hr6, h⟩ := zi_bind h
      refine zv_cs hB (zv_emq (va2 := [.inl (zi_rem (zi_w (r1 + 1)) 24), .inl r2]) (F := []) (F' := []) (G := [g0]) (G' := [g0]) (ρ := []) (φ := []) (ψ := []) [] [none] zyw_X_placeOf zyw_Sea_goFrom zye_Sea_goFrom (by decide +kernel) (zt_X_placeOf hr6) trivial trivial rfl rfl rfl rfl rfl rfl rfl) zd154_92 zxt24 rfl (by decide) (by decide) rfl ?_
      obtain ⟨r7, hr7, h⟩ := zi_bind h
      refine zv_cv hB (zv_emq (va2 := [.inr 0, .inl r6]) (F := []) (F' := []) (G := [g0]) (G' := [g0]) (ρ := [0, 1]) (φ := []) (ψ := [0]) [] [some 0] zyw_Sea_isLand zyw_Sea_goFrom zye_Sea_goFrom (by decide +kernel) (zt_Sea_isLand hr7) trivial ⟨rfl, trivial⟩ rfl rfl rfl rfl rfl rfl rfl) zd154_95 zxt29 rfl (by decide) (by decide) rfl ?_
      refine zv_zeq hB zd154_98 rfl (fun hc8 => ?_) (fun hc8 => ?_)
      · rw [if_pos hc8] at h
        refine zv_ild hB zd154_105 rfl rfl ?_
        refine zv_ild hB zd154_106 rfl rfl ?_
        obtain ⟨r9, hr9, h⟩ := zi_bind h
        refine zv_cs hB (zv_emq (va2 := [.inl (zi_rem (zi_w (r1 + 1)) 24), .inl r2]) (F := []) (F' := []) (G := [g0]) (G' := [g0]) (ρ := []) (φ := []) (ψ := []) [] [none] zyw_X_placeOf zyw_Sea_goFrom zye_Sea_goFrom (by decide +kernel) (zt_X_placeOf hr9) trivial trivial rfl rfl rfl rfl rfl rfl rfl) zd154_108 zxt24 rfl (by decide) (by decide) rfl ?_
        have hw := Option.some.inj h
        subst hw
        exact hret _ _ _ _ _ zd154_111 (by trivial) ⟨rfl, rfl, rfl⟩
      · rw [if_neg hc8] at h
        refine zv_con hB zd154_101 rfl ?_
        refine zv_goto hB zd154_102 rfl ?_
        have hw := Option.some.inj h
        subst hw
        exact hret _ _ _ _ _ zd154_111 (by trivial) ⟨rfl, rfl, rfl⟩
  replace hc3 : x2 ≠ 1 := hc3
  rw [if_neg hc3] at h
  refine ⟨fun hc10 => ⟨_, rfl, ?_⟩, fun hc10 => ?_⟩
  · replace hc10 : x2 = 2 := hc10
    rw [if_pos hc10] at h
    refine zv_ild hB zd154_54 rfl rfl ?_
    refine zv_con hB zd154_55 rfl ?_
    refine zv_addw hB zd154_57 ?_
    refine zv_con hB zd154_58 rfl ?_
    refine zv_subw hB zd154_59 ?_
    refine zv_con hB zd154_60 rfl ?_
    refine zv_remw hB zd154_62 (by decide) ?_
    refine zv_ist hB zd154_63 rfl rfl rfl ?_
    refine zv_goto hB zd154_64 rfl ?_
    refine zv_ild hB zd154_79 rfl rfl ?_
    refine zv_ild hB zd154_80 rfl rfl ?_
    obtain ⟨r11, hr11, h⟩ := zi_bind h
    refine zv_cs hB (zv_emq (va2 := [.inl (zi_rem (zi_w ((zi_w (r1 + 24)) - 1)) 24), .inl r2]) (F := []) (F' := []) (G := [g0]) (G' := [g0]) (ρ := []) (φ := []) (ψ := []) [] [none] zyw_X_isPlace zyw_Sea_goFrom zye_Sea_goFrom (by decide +kernel) (zt_X_isPlace hr11) trivial trivial rfl rfl rfl rfl rfl rfl rfl) zd154_82 zxt16 rfl (by decide) (by decide) rfl ?_
    refine zv_zeq hB zd154_85 rfl (fun hc12 => ?_) (fun hc12 => ?_)
    · rw [if_pos hc12] at h
      refine zv_con hB zd154_101 rfl ?_
      refine zv_goto hB zd154_102 rfl ?_
      have hw := Option.some.inj h
      subst hw
      exact hret _ _ _ _ _ zd154_111 (by trivial) ⟨rfl, rfl, rfl⟩
    · rw [if_neg hc12] at h
      refine zv_ald hB zd154_88 rfl rfl rfl ?_
      refine zv_ild hB zd154_89 rfl rfl ?_
      refine zv_ild hB zd154_90 rfl rfl ?_
      obtain ⟨r13, hr13, h⟩ := zi_bind h
      refine zv_cs hB (zv_emq (va2 := [.inl (zi_rem (zi_w ((zi_w (r1 + 24)) - 1)) 24), .inl r2]) (F := []) (F' := []) (G := [g0]) (G' := [g0]) (ρ := []) (φ := []) (ψ := []) [] [none] zyw_X_placeOf zyw_Sea_goFrom zye_Sea_goFrom (by decide +kernel) (zt_X_placeOf hr13) trivial trivial rfl rfl rfl rfl rfl rfl rfl) zd154_92 zxt24 rfl (by decide) (by decide) rfl ?_
      obtain ⟨r14, hr14, h⟩ := zi_bind h
      refine zv_cv hB (zv_emq (va2 := [.inr 0, .inl r13]) (F := []) (F' := []) (G := [g0]) (G' := [g0]) (ρ := [0, 1]) (φ := []) (ψ := [0]) [] [some 0] zyw_Sea_isLand zyw_Sea_goFrom zye_Sea_goFrom (by decide +kernel) (zt_Sea_isLand hr14) trivial ⟨rfl, trivial⟩ rfl rfl rfl rfl rfl rfl rfl) zd154_95 zxt29 rfl (by decide) (by decide) rfl ?_
      refine zv_zeq hB zd154_98 rfl (fun hc15 => ?_) (fun hc15 => ?_)
      · rw [if_pos hc15] at h
        refine zv_ild hB zd154_105 rfl rfl ?_
        refine zv_ild hB zd154_106 rfl rfl ?_
        obtain ⟨r16, hr16, h⟩ := zi_bind h
        refine zv_cs hB (zv_emq (va2 := [.inl (zi_rem (zi_w ((zi_w (r1 + 24)) - 1)) 24), .inl r2]) (F := []) (F' := []) (G := [g0]) (G' := [g0]) (ρ := []) (φ := []) (ψ := []) [] [none] zyw_X_placeOf zyw_Sea_goFrom zye_Sea_goFrom (by decide +kernel) (zt_X_placeOf hr16) trivial trivial rfl rfl rfl rfl rfl rfl rfl) zd154_108 zxt24 rfl (by decide) (by decide) rfl ?_
        have hw := Option.some.inj h
        subst hw
        exact hret _ _ _ _ _ zd154_111 (by trivial) ⟨rfl, rfl, rfl⟩
      · rw [if_neg hc15] at h
        refine zv_con hB zd154_101 rfl ?_
        refine zv_goto hB zd154_102 rfl ?_
        have hw := Option.some.inj h
        subst hw
        exact hret _ _ _ _ _ zd154_111 (by trivial) ⟨rfl, rfl, rfl⟩
  replace hc10 : x2 ≠ 2 := hc10
  rw [if_neg hc10] at h
  refine ⟨fun hc17 => ⟨_, rfl, ?_⟩, fun hc17 => ?_⟩
  · replace hc17 : x2 = 3 := hc17
    rw [if_pos hc17] at h
    refine zv_iincw hB zd154_67 rfl rfl ?_
    refine zv_goto hB zd154_70 rfl ?_
    refine zv_ild hB zd154_79 rfl rfl ?_
    refine zv_ild hB zd154_80 rfl rfl ?_
    obtain ⟨r18, hr18, h⟩ := zi_bind h
    refine zv_cs hB (zv_emq (va2 := [.inl r1, .inl (zi_w (r2 + 1))]) (F := []) (F' := []) (G := [g0]) (G' := [g0]) (ρ := []) (φ := []) (ψ := []) [] [none] zyw_X_isPlace zyw_Sea_goFrom zye_Sea_goFrom (by decide +kernel) (zt_X_isPlace hr18) trivial trivial rfl rfl rfl rfl rfl rfl rfl) zd154_82 zxt16 rfl (by decide) (by decide) rfl ?_
    refine zv_zeq hB zd154_85 rfl (fun hc19 => ?_) (fun hc19 => ?_)
    · rw [if_pos hc19] at h
      refine zv_con hB zd154_101 rfl ?_
      refine zv_goto hB zd154_102 rfl ?_
      have hw := Option.some.inj h
      subst hw
      exact hret _ _ _ _ _ zd154_111 (by trivial) ⟨rfl, rfl, rfl⟩
    · rw [if_neg hc19] at h
      refine zv_ald hB zd154_88 rfl rfl rfl ?_
      refine zv_ild hB zd154_89 rfl rfl ?_
      refine zv_ild hB zd154_90 rfl rfl ?_
      obtain ⟨r20, hr20, h⟩ := zi_bind h
      refine zv_cs hB (zv_emq (va2 := [.inl r1, .inl (zi_w (r2 + 1))]) (F := []) (F' := []) (G := [g0]) (G' := [g0]) (ρ := []) (φ := []) (ψ := []) [] [none] zyw_X_placeOf zyw_Sea_goFrom zye_Sea_goFrom (by decide +kernel) (zt_X_placeOf hr20) trivial trivial rfl rfl rfl rfl rfl rfl rfl) zd154_92 zxt24 rfl (by decide) (by decide) rfl ?_
      obtain ⟨r21, hr21, h⟩ := zi_bind h
      refine zv_cv hB (zv_emq (va2 := [.inr 0, .inl r20]) (F := []) (F' := []) (G := [g0]) (G' := [g0]) (ρ := [0, 1]) (φ := []) (ψ := [0]) [] [some 0] zyw_Sea_isLand zyw_Sea_goFrom zye_Sea_goFrom (by decide +kernel) (zt_Sea_isLand hr21) trivial ⟨rfl, trivial⟩ rfl rfl rfl rfl rfl rfl rfl) zd154_95 zxt29 rfl (by decide) (by decide) rfl ?_
      refine zv_zeq hB zd154_98 rfl (fun hc22 => ?_) (fun hc22 => ?_)
      · rw [if_pos hc22] at h
        refine zv_ild hB zd154_105 rfl rfl ?_
        refine zv_ild hB zd154_106 rfl rfl ?_
        obtain ⟨r23, hr23, h⟩ := zi_bind h
        refine zv_cs hB (zv_emq (va2 := [.inl r1, .inl (zi_w (r2 + 1))]) (F := []) (F' := []) (G := [g0]) (G' := [g0]) (ρ := []) (φ := []) (ψ := []) [] [none] zyw_X_placeOf zyw_Sea_goFrom zye_Sea_goFrom (by decide +kernel) (zt_X_placeOf hr23) trivial trivial rfl rfl rfl rfl rfl rfl rfl) zd154_108 zxt24 rfl (by decide) (by decide) rfl ?_
        have hw := Option.some.inj h
        subst hw
        exact hret _ _ _ _ _ zd154_111 (by trivial) ⟨rfl, rfl, rfl⟩
      · rw [if_neg hc22] at h
        refine zv_con hB zd154_101 rfl ?_
        refine zv_goto hB zd154_102 rfl ?_
        have hw := Option.some.inj h
        subst hw
        exact hret _ _ _ _ _ zd154_111 (by trivial) ⟨rfl, rfl, rfl⟩
  replace hc17 : x2 ≠ 3 := hc17
  rw [if_neg hc17] at h
  refine ⟨fun hc24 => ⟨_, rfl, ?_⟩, fun hc24 => ?_⟩
  · replace hc24 : x2 = 4 := hc24
    rw [if_pos hc24] at h
    refine zv_iincw hB zd154_73 rfl rfl ?_
    refine zv_goto hB zd154_76 rfl ?_
    refine zv_ild hB zd154_79 rfl rfl ?_
    refine zv_ild hB zd154_80 rfl rfl ?_
    obtain ⟨r25, hr25, h⟩ := zi_bind h
    refine zv_cs hB (zv_emq (va2 := [.inl r1, .inl (zi_w (r2 + (-1)))]) (F := []) (F' := []) (G := [g0]) (G' := [g0]) (ρ := []) (φ := []) (ψ := []) [] [none] zyw_X_isPlace zyw_Sea_goFrom zye_Sea_goFrom (by decide +kernel) (zt_X_isPlace hr25) trivial trivial rfl rfl rfl rfl rfl rfl rfl) zd154_82 zxt16 rfl (by decide) (by decide) rfl ?_
    refine zv_zeq hB zd154_85 rfl (fun hc26 => ?_) (fun hc26 => ?_)
    · rw [if_pos hc26] at h
      refine zv_con hB zd154_101 rfl ?_
      refine zv_goto hB zd154_102 rfl ?_
      have hw := Option.some.inj h
      subst hw
      exact hret _ _ _ _ _ zd154_111 (by trivial) ⟨rfl, rfl, rfl⟩
    · rw [if_neg hc26] at h
      refine zv_ald hB zd154_88 rfl rfl rfl ?_
      refine zv_ild hB zd154_89 rfl rfl ?_
      refine zv_ild hB zd154_90 rfl rfl ?_
      obtain ⟨r27, hr27, h⟩ := zi_bind h
      refine zv_cs hB (zv_emq (va2 := [.inl r1, .inl (zi_w (r2 + (-1)))]) (F := []) (F' := []) (G := [g0]) (G' := [g0]) (ρ := []) (φ := []) (ψ := []) [] [none] zyw_X_placeOf zyw_Sea_goFrom zye_Sea_goFrom (by decide +kernel) (zt_X_placeOf hr27) trivial trivial rfl rfl rfl rfl rfl rfl rfl) zd154_92 zxt24 rfl (by decide) (by decide) rfl ?_
      obtain ⟨r28, hr28, h⟩ := zi_bind h
      refine zv_cv hB (zv_emq (va2 := [.inr 0, .inl r27]) (F := []) (F' := []) (G := [g0]) (G' := [g0]) (ρ := [0, 1]) (φ := []) (ψ := [0]) [] [some 0] zyw_Sea_isLand zyw_Sea_goFrom zye_Sea_goFrom (by decide +kernel) (zt_Sea_isLand hr28) trivial ⟨rfl, trivial⟩ rfl rfl rfl rfl rfl rfl rfl) zd154_95 zxt29 rfl (by decide) (by decide) rfl ?_
      refine zv_zeq hB zd154_98 rfl (fun hc29 => ?_) (fun hc29 => ?_)
      · rw [if_pos hc29] at h
        refine zv_ild hB zd154_105 rfl rfl ?_
        refine zv_ild hB zd154_106 rfl rfl ?_
        obtain ⟨r30, hr30, h⟩ := zi_bind h
        refine zv_cs hB (zv_emq (va2 := [.inl r1, .inl (zi_w (r2 + (-1)))]) (F := []) (F' := []) (G := [g0]) (G' := [g0]) (ρ := []) (φ := []) (ψ := []) [] [none] zyw_X_placeOf zyw_Sea_goFrom zye_Sea_goFrom (by decide +kernel) (zt_X_placeOf hr30) trivial trivial rfl rfl rfl rfl rfl rfl rfl) zd154_108 zxt24 rfl (by decide) (by decide) rfl ?_
        have hw := Option.some.inj h
        subst hw
        exact hret _ _ _ _ _ zd154_111 (by trivial) ⟨rfl, rfl, rfl⟩
      · rw [if_neg hc29] at h
        refine zv_con hB zd154_101 rfl ?_
        refine zv_goto hB zd154_102 rfl ?_
        have hw := Option.some.inj h
        subst hw
        exact hret _ _ _ _ _ zd154_111 (by trivial) ⟨rfl, rfl, rfl⟩
  replace hc24 : x2 ≠ 4 := hc24
  rw [if_neg hc24] at h
  refine ⟨_, rfl, ?_⟩
  refine zv_ild hB zd154_79 rfl rfl ?_
  refine zv_ild hB zd154_80 rfl rfl ?_
  obtain ⟨r31, hr31, h⟩ := zi_bind h
  refine zv_cs hB (zv_emq (va2 := [.inl r1, .inl r2]) (F := []) (F' := []) (G := [g0]) (G' := [g0]) (ρ := []) (φ := []) (ψ := []) [] [none] zyw_X_isPlace zyw_Sea_goFrom zye_Sea_goFrom (by decide +kernel) (zt_X_isPlace hr31) trivial trivial rfl rfl rfl rfl rfl rfl rfl) zd154_82 zxt16 rfl (by decide) (by decide) rfl ?_
  refine zv_zeq hB zd154_85 rfl (fun hc32 => ?_) (fun hc32 => ?_)
  · rw [if_pos hc32] at h
    refine zv_con hB zd154_101 rfl ?_
    refine zv_goto hB zd154_102 rfl ?_
    have hw := Option.some.inj h
    subst hw
    exact hret _ _ _ _ _ zd154_111 (by trivial) ⟨rfl, rfl, rfl⟩
  · rw [if_neg hc32] at h
    refine zv_ald hB zd154_88 rfl rfl rfl ?_
    refine zv_ild hB zd154_89 rfl rfl ?_
    refine zv_ild hB zd154_90 rfl rfl ?_
    obtain ⟨r33, hr33, h⟩ := zi_bind h
    refine zv_cs hB (zv_emq (va2 := [.inl r1, .inl r2]) (F := []) (F' := []) (G := [g0]) (G' := [g0]) (ρ := []) (φ := []) (ψ := []) [] [none] zyw_X_placeOf zyw_Sea_goFrom zye_Sea_goFrom (by decide +kernel) (zt_X_placeOf hr33) trivial trivial rfl rfl rfl rfl rfl rfl rfl) zd154_92 zxt24 rfl (by decide) (by decide) rfl ?_
    obtain ⟨r34, hr34, h⟩ := zi_bind h
    refine zv_cv hB (zv_emq (va2 := [.inr 0, .inl r33]) (F := []) (F' := []) (G := [g0]) (G' := [g0]) (ρ := [0, 1]) (φ := []) (ψ := [0]) [] [some 0] zyw_Sea_isLand zyw_Sea_goFrom zye_Sea_goFrom (by decide +kernel) (zt_Sea_isLand hr34) trivial ⟨rfl, trivial⟩ rfl rfl rfl rfl rfl rfl rfl) zd154_95 zxt29 rfl (by decide) (by decide) rfl ?_
    refine zv_zeq hB zd154_98 rfl (fun hc35 => ?_) (fun hc35 => ?_)
    · rw [if_pos hc35] at h
      refine zv_ild hB zd154_105 rfl rfl ?_
      refine zv_ild hB zd154_106 rfl rfl ?_
      obtain ⟨r36, hr36, h⟩ := zi_bind h
      refine zv_cs hB (zv_emq (va2 := [.inl r1, .inl r2]) (F := []) (F' := []) (G := [g0]) (G' := [g0]) (ρ := []) (φ := []) (ψ := []) [] [none] zyw_X_placeOf zyw_Sea_goFrom zye_Sea_goFrom (by decide +kernel) (zt_X_placeOf hr36) trivial trivial rfl rfl rfl rfl rfl rfl rfl) zd154_108 zxt24 rfl (by decide) (by decide) rfl ?_
      have hw := Option.some.inj h
      subst hw
      exact hret _ _ _ _ _ zd154_111 (by trivial) ⟨rfl, rfl, rfl⟩
    · rw [if_neg hc35] at h
      refine zv_con hB zd154_101 rfl ?_
      refine zv_goto hB zd154_102 rfl ?_
      have hw := Option.some.inj h
      subst hw
      exact hret _ _ _ _ _ zd154_111 (by trivial) ⟨rfl, rfl, rfl⟩
end
section
/-! Methods as functions, and that they do what these do. -/
/-! Pilot_step (LStarTales$View;LStarTales$Sea;II)I -/
-- names: 0 Pilot('arg', 0), 1 View('arg', 1), 2 Sea('arg', 2), 3 Law(1, 7, 1), 4 (0, 13)(3, 4, 12), 5 Sky(1, 7, 0), 6 (0, 24)(5, 1, 1), 7 (0, 24)(5, 1, 2), 8 (0, 24)(5, 1, 3), 9 (0, 14)(3, 4, 3), 10 (0, 14)(3, 4, 5), 11 (0, 14)(3, 4, 6), 12 (0, 200)(3, 4, 0), 13 (0, 40)(3, 4, 13), 14 (0, 200)(3, 4, 1), 15 (0, 12)(2, 2, 0)
-- fields: f0 = 1.law_, f1 = 1.sky_, f2 = 1.x_, f3 = 1.y_, f4 = 5.hour_, f5 = 5.night_, f6 = 5.told_, f7 = 5.sightColumns_, f8 = 5.sightRows_, f9 = 5.clouds_, f10 = 3.tellsSeen_, f11 = 1.starsAsked_, f12 = 1.starsHold_, f13 = 3.clauses_, f14 = 3.answer_, f15 = 3.seenByPlace_; arrays: g0 = 4, g1 = 6, g2 = 7, g3 = 8, g4 = 9, g5 = 10, g6 = 11, g7 = 12, g8 = 13, g9 = 14, g10 = 15; out: [('ret', None), ('f', 2), ('f', 3), ('f', 11), ('f', 12), ('f', 14), ('g', 0), ('g', 8)]
abbrev zy_Pilot_step : zNL := (16, [(0, 9), (1, 7), (2, 2), (3, 4), (5, 1)], [(1, 7, 1, 0), (1, 7, 0, 1), (1, 7, 2, 2), (1, 7, 3, 3), (5, 1, 6, 4), (5, 1, 7, 5), (5, 1, 0, 6), (5, 1, 9, 7), (5, 1, 10, 8), (5, 1, 8, 9), (3, 4, 8, 10), (1, 7, 6, 11), (1, 7, 7, 12), (3, 4, 7, 13), (3, 4, 14, 14), (3, 4, 10, 15)], [(3, 4, 12, 4), (5, 1, 1, 6), (5, 1, 2, 7), (5, 1, 3, 8), (3, 4, 3, 9), (3, 4, 5, 10), (3, 4, 6, 11), (3, 4, 0, 12), (3, 4, 13, 13), (3, 4, 1, 14), (2, 2, 0, 15)], [(4, 0, 13, 0), (6, 0, 24, 1), (7, 0, 24, 2), (8, 0, 24, 3), (9, 0, 14, 4), (10, 0, 14, 5), (11, 0, 14, 6), (12, 0, 200, 7), (13, 0, 40, 8), (14, 0, 200, 9), (15, 0, 12, 10)])
theorem zyw_Pilot_step : zv_wf zy_Pilot_step = true := by decide +kernel
theorem zye_Pilot_step : zv_ek2 zy_Pilot_step = true := by decide +kernel
def zf_Pilot_step (x3 : Int) (x4 : Int) (f2 : Int) (f3 : Int) (f4 : Int) (f5 : Int) (f6 : Int) (f7 : Int) (f8 : Int) (f9 : Int) (f10 : Int) (f11 : Int) (f12 : Int) (f13 : Int) (f14 : Int) (f15 : Int) (g0 : (Int → Int)) (g1 : (Int → Int)) (g2 : (Int → Int)) (g3 : (Int → Int)) (g4 : (Int → Int)) (g5 : (Int → Int)) (g6 : (Int → Int)) (g7 : (Int → Int)) (g8 : (Int → Int)) (g9 : (Int → Int)) (g10 : (Int → Int)) : Option (Int × Int × Int × Int × Int × Int × (Int → Int) × (Int → Int)) := (zf_X_columnOf x3).bind fun r1 => ((zf_X_rowOf x3).bind fun r2 => ((zf_View_goTo r1 r2 f2 f3 f4 f5 g0).bind fun r3 => ((zf_View_sees x4 f6 f4 r3.1 r3.2.1 f7 f8 f9 f10 f11 f12 f13 f14 f15 g1 g2 r3.2.2 g3 g4 g5 g6 g7 g8 g9).bind fun r4 => (if r4.1 = 0 then (some (x3, r3.1, r3.2.1, r4.2.1, r4.2.2.1, r4.2.2.2.1, r4.2.2.2.2.1, r4.2.2.2.2.2)) else ((zf_Sky_standing x4 f4 g1).bind fun r6 => ((zf_Math_floorMod (zi_w (r6 - r1)) 24).bind fun r7 => ((zf_Math_min r7 (zi_w (24 - r7))).bind fun r8 => (cond (zi_ix x4 24) (if r8 = 0 then (if (zi_w ((g2 x4) - r2)) = 0 then (some (x3, r3.1, r3.2.1, r4.2.1, r4.2.2.1, r4.2.2.2.1, r4.2.2.2.2.1, r4.2.2.2.2.2)) else ((zf_Math_abs (zi_w ((g2 x4) - r2))).bind fun r24 => (if r8 < r24 then (if 0 < (zi_w ((g2 x4) - r2)) then ((zf_Sea_goFrom x3 3 g10).bind fun r29 => (if r29 = (-1) then (some (x3, r3.1, r3.2.1, r4.2.1, r4.2.2.1, r4.2.2.2.1, r4.2.2.2.2.1, r4.2.2.2.2.2)) else (some (r29, r3.1, r3.2.1, r4.2.1, r4.2.2.1, r4.2.2.2.1, r4.2.2.2.2.1, r4.2.2.2.2.2)))) else ((zf_Sea_goFrom x3 4 g10).bind fun r27 => (if r27 = (-1) then (some (x3, r3.1, r3.2.1, r4.2.1, r4.2.2.1, r4.2.2.2.1, r4.2.2.2.2.1, r4.2.2.2.2.2)) else (some (r27, r3.1, r3.2.1, r4.2.1, r4.2.2.1, r4.2.2.2.1, r4.2.2.2.2.1, r4.2.2.2.2.2))))) else (if 12 < r7 then ((zf_Sea_goFrom x3 2 g10).bind fun r32 => (if r32 = (-1) then (some (x3, r3.1, r3.2.1, r4.2.1, r4.2.2.1, r4.2.2.2.1, r4.2.2.2.2.1, r4.2.2.2.2.2)) else (some (r32, r3.1, r3.2.1, r4.2.1, r4.2.2.1, r4.2.2.2.1, r4.2.2.2.2.1, r4.2.2.2.2.2)))) else ((zf_Sea_goFrom x3 1 g10).bind fun r34 => (if r34 = (-1) then (some (x3, r3.1, r3.2.1, r4.2.1, r4.2.2.1, r4.2.2.2.1, r4.2.2.2.2.1, r4.2.2.2.2.2)) else (some (r34, r3.1, r3.2.1, r4.2.1, r4.2.2.1, r4.2.2.2.1, r4.2.2.2.2.1, r4.2.2.2.2.2)))))))) else ((zf_Math_abs (zi_w ((g2 x4) - r2))).bind fun r11 => (if r8 < r11 then (if 0 < (zi_w ((g2 x4) - r2)) then ((zf_Sea_goFrom x3 3 g10).bind fun r16 => (if r16 = (-1) then (some (x3, r3.1, r3.2.1, r4.2.1, r4.2.2.1, r4.2.2.2.1, r4.2.2.2.2.1, r4.2.2.2.2.2)) else (some (r16, r3.1, r3.2.1, r4.2.1, r4.2.2.1, r4.2.2.2.1, r4.2.2.2.2.1, r4.2.2.2.2.2)))) else ((zf_Sea_goFrom x3 4 g10).bind fun r14 => (if r14 = (-1) then (some (x3, r3.1, r3.2.1, r4.2.1, r4.2.2.1, r4.2.2.2.1, r4.2.2.2.2.1, r4.2.2.2.2.2)) else (some (r14, r3.1, r3.2.1, r4.2.1, r4.2.2.1, r4.2.2.2.1, r4.2.2.2.2.1, r4.2.2.2.2.2))))) else (if 12 < r7 then ((zf_Sea_goFrom x3 2 g10).bind fun r19 => (if r19 = (-1) then (some (x3, r3.1, r3.2.1, r4.2.1, r4.2.2.1, r4.2.2.2.1, r4.2.2.2.2.1, r4.2.2.2.2.2)) else (some (r19, r3.1, r3.2.1, r4.2.1, r4.2.2.1, r4.2.2.2.1, r4.2.2.2.2.1, r4.2.2.2.2.2)))) else ((zf_Sea_goFrom x3 1 g10).bind fun r21 => (if r21 = (-1) then (some (x3, r3.1, r3.2.1, r4.2.1, r4.2.2.1, r4.2.2.2.1, r4.2.2.2.2.1, r4.2.2.2.2.2)) else (some (r21, r3.1, r3.2.1, r4.2.1, r4.2.2.1, r4.2.2.2.1, r4.2.2.2.2.1, r4.2.2.2.2.2)))))))) none))))))))
theorem zd153_0 : decode zxm153.2.1 0 = .ok (.iload_n 3, 1) := by decide +kernel
theorem zd153_1 : decode zxm153.2.1 1 = .ok (.invokestatic 58, 3) := by decide +kernel
theorem zd153_4 : decode zxm153.2.1 4 = .ok (.istore 5, 2) := by decide +kernel
theorem zd153_6 : decode zxm153.2.1 6 = .ok (.iload_n 3, 1) := by decide +kernel
theorem zd153_7 : decode zxm153.2.1 7 = .ok (.invokestatic 62, 3) := by decide +kernel
theorem zd153_10 : decode zxm153.2.1 10 = .ok (.istore 6, 2) := by decide +kernel
theorem zd153_12 : decode zxm153.2.1 12 = .ok (.aload_n 1, 1) := by decide +kernel
theorem zd153_13 : decode zxm153.2.1 13 = .ok (.iload 5, 2) := by decide +kernel
theorem zd153_15 : decode zxm153.2.1 15 = .ok (.iload 6, 2) := by decide +kernel
theorem zd153_17 : decode zxm153.2.1 17 = .ok (.invokevirtual 65, 3) := by decide +kernel
theorem zd153_20 : decode zxm153.2.1 20 = .ok (.aload_n 1, 1) := by decide +kernel
theorem zd153_21 : decode zxm153.2.1 21 = .ok (.iload 4, 2) := by decide +kernel
theorem zd153_23 : decode zxm153.2.1 23 = .ok (.invokevirtual 71, 3) := by decide +kernel
theorem zd153_26 : decode zxm153.2.1 26 = .ok (.ifCond .ne 5, 3) := by decide +kernel
theorem zd153_29 : decode zxm153.2.1 29 = .ok (.iload_n 3, 1) := by decide +kernel
theorem zd153_30 : decode zxm153.2.1 30 = .ok (.ireturn, 1) := by decide +kernel
theorem zd153_31 : decode zxm153.2.1 31 = .ok (.aload_n 1, 1) := by decide +kernel
theorem zd153_32 : decode zxm153.2.1 32 = .ok (.getfield 75, 3) := by decide +kernel
theorem zd153_35 : decode zxm153.2.1 35 = .ok (.iload 4, 2) := by decide +kernel
theorem zd153_37 : decode zxm153.2.1 37 = .ok (.invokevirtual 79, 3) := by decide +kernel
theorem zd153_40 : decode zxm153.2.1 40 = .ok (.iload 5, 2) := by decide +kernel
theorem zd153_42 : decode zxm153.2.1 42 = .ok (.isub, 1) := by decide +kernel
theorem zd153_43 : decode zxm153.2.1 43 = .ok (.bipush 24, 2) := by decide +kernel
theorem zd153_45 : decode zxm153.2.1 45 = .ok (.invokestatic 84, 3) := by decide +kernel
theorem zd153_48 : decode zxm153.2.1 48 = .ok (.istore 7, 2) := by decide +kernel
theorem zd153_50 : decode zxm153.2.1 50 = .ok (.iload 7, 2) := by decide +kernel
theorem zd153_52 : decode zxm153.2.1 52 = .ok (.bipush 24, 2) := by decide +kernel
theorem zd153_54 : decode zxm153.2.1 54 = .ok (.iload 7, 2) := by decide +kernel
theorem zd153_56 : decode zxm153.2.1 56 = .ok (.isub, 1) := by decide +kernel
theorem zd153_57 : decode zxm153.2.1 57 = .ok (.invokestatic 90, 3) := by decide +kernel
theorem zd153_60 : decode zxm153.2.1 60 = .ok (.istore 8, 2) := by decide +kernel
theorem zd153_62 : decode zxm153.2.1 62 = .ok (.aload_n 1, 1) := by decide +kernel
theorem zd153_63 : decode zxm153.2.1 63 = .ok (.getfield 75, 3) := by decide +kernel
theorem zd153_66 : decode zxm153.2.1 66 = .ok (.getfield 93, 3) := by decide +kernel
theorem zd153_69 : decode zxm153.2.1 69 = .ok (.iload 4, 2) := by decide +kernel
theorem zd153_71 : decode zxm153.2.1 71 = .ok (.iaload, 1) := by decide +kernel
theorem zd153_72 : decode zxm153.2.1 72 = .ok (.iload 6, 2) := by decide +kernel
theorem zd153_74 : decode zxm153.2.1 74 = .ok (.isub, 1) := by decide +kernel
theorem zd153_75 : decode zxm153.2.1 75 = .ok (.istore 9, 2) := by decide +kernel
theorem zd153_77 : decode zxm153.2.1 77 = .ok (.iload 8, 2) := by decide +kernel
theorem zd153_79 : decode zxm153.2.1 79 = .ok (.ifCond .ne 10, 3) := by decide +kernel
theorem zd153_82 : decode zxm153.2.1 82 = .ok (.iload 9, 2) := by decide +kernel
theorem zd153_84 : decode zxm153.2.1 84 = .ok (.ifCond .ne 5, 3) := by decide +kernel
theorem zd153_87 : decode zxm153.2.1 87 = .ok (.iload_n 3, 1) := by decide +kernel
theorem zd153_88 : decode zxm153.2.1 88 = .ok (.ireturn, 1) := by decide +kernel
theorem zd153_89 : decode zxm153.2.1 89 = .ok (.iload 8, 2) := by decide +kernel
theorem zd153_91 : decode zxm153.2.1 91 = .ok (.iload 9, 2) := by decide +kernel
theorem zd153_93 : decode zxm153.2.1 93 = .ok (.invokestatic 96, 3) := by decide +kernel
theorem zd153_96 : decode zxm153.2.1 96 = .ok (.if_icmp .lt 20, 3) := by decide +kernel
theorem zd153_99 : decode zxm153.2.1 99 = .ok (.iload 7, 2) := by decide +kernel
theorem zd153_101 : decode zxm153.2.1 101 = .ok (.bipush 12, 2) := by decide +kernel
theorem zd153_103 : decode zxm153.2.1 103 = .ok (.if_icmp .gt 7, 3) := by decide +kernel
theorem zd153_106 : decode zxm153.2.1 106 = .ok (.iconst 1, 1) := by decide +kernel
theorem zd153_107 : decode zxm153.2.1 107 = .ok (.goto 4, 3) := by decide +kernel
theorem zd153_110 : decode zxm153.2.1 110 = .ok (.iconst 2, 1) := by decide +kernel
theorem zd153_111 : decode zxm153.2.1 111 = .ok (.istore 10, 2) := by decide +kernel
theorem zd153_113 : decode zxm153.2.1 113 = .ok (.goto 15, 3) := by decide +kernel
theorem zd153_116 : decode zxm153.2.1 116 = .ok (.iload 9, 2) := by decide +kernel
theorem zd153_118 : decode zxm153.2.1 118 = .ok (.ifCond .le 7, 3) := by decide +kernel
theorem zd153_121 : decode zxm153.2.1 121 = .ok (.iconst 3, 1) := by decide +kernel
theorem zd153_122 : decode zxm153.2.1 122 = .ok (.goto 4, 3) := by decide +kernel
theorem zd153_125 : decode zxm153.2.1 125 = .ok (.iconst 4, 1) := by decide +kernel
theorem zd153_126 : decode zxm153.2.1 126 = .ok (.istore 10, 2) := by decide +kernel
theorem zd153_128 : decode zxm153.2.1 128 = .ok (.aload_n 2, 1) := by decide +kernel
theorem zd153_129 : decode zxm153.2.1 129 = .ok (.iload_n 3, 1) := by decide +kernel
theorem zd153_130 : decode zxm153.2.1 130 = .ok (.iload 10, 2) := by decide +kernel
theorem zd153_132 : decode zxm153.2.1 132 = .ok (.invokevirtual 99, 3) := by decide +kernel
theorem zd153_135 : decode zxm153.2.1 135 = .ok (.istore 11, 2) := by decide +kernel
theorem zd153_137 : decode zxm153.2.1 137 = .ok (.iload 11, 2) := by decide +kernel
theorem zd153_139 : decode zxm153.2.1 139 = .ok (.iconst (-1), 1) := by decide +kernel
theorem zd153_140 : decode zxm153.2.1 140 = .ok (.if_icmp .ne 7, 3) := by decide +kernel
theorem zd153_143 : decode zxm153.2.1 143 = .ok (.iload_n 3, 1) := by decide +kernel
theorem zd153_144 : decode zxm153.2.1 144 = .ok (.goto 5, 3) := by decide +kernel
theorem zd153_147 : decode zxm153.2.1 147 = .ok (.iload 11, 2) := by decide +kernel
theorem zd153_149 : decode zxm153.2.1 149 = .ok (.ireturn, 1) := by decide +kernel
theorem zt_Pilot_step {x3 : Int} {x4 : Int} {f2 : Int} {f3 : Int} {f4 : Int} {f5 : Int} {f6 : Int} {f7 : Int} {f8 : Int} {f9 : Int} {f10 : Int} {f11 : Int} {f12 : Int} {f13 : Int} {f14 : Int} {f15 : Int} {g0 : (Int → Int)} {g1 : (Int → Int)} {g2 : (Int → Int)} {g3 : (Int → Int)} {g4 : (Int → Int)} {g5 : (Int → Int)} {g6 : (Int → Int)} {g7 : (Int → Int)} {g8 : (Int → Int)} {g9 : (Int → Int)} {g10 : (Int → Int)} {o : Int × Int × Int × Int × Int × Int × (Int → Int) × (Int → Int)} (h : zf_Pilot_step x3 x4 f2 f3 f4 f5 f6 f7 f8 f9 f10 f11 f12 f13 f14 f15 g0 g1 g2 g3 g4 g5 g6 g7 g8 g9 g10 = some o) : zv_Fn z_TB z_cl z_KX zy_Pilot_step zxm153 (4, 240) [.inr 0, .inr 1, .inr 2, .inl x3, .inl x4] [.inr 3, .inr 5, .inl f2, .inl f3, .inl f4, .inl f5, .inl f6, .inl f7, .inl f8, .inl f9, .inl f10, .inl f11, .inl f12, .inl f13, .inl f14, .inl f15] [g0, g1, g2, g3, g4, g5, g6, g7, g8, g9, g10] (some o.1) [.inr 3, .inr 5, .inl o.2.1, .inl o.2.2.1, .inl f4, .inl f5, .inl f6, .inl f7, .inl f8, .inl f9, .inl f10, .inl o.2.2.2.1, .inl o.2.2.2.2.1, .inl f13, .inl o.2.2.2.2.2.1, .inl f15] [o.2.2.2.2.2.2.1, g1, g2, g3, g4, g5, g6, g7, o.2.2.2.2.2.2.2, g9, g10] := zv_meth (K := (z_KF6, z_KC6, z_KL6, z_KT6, [], [], [], none)) (FT := z_FT) (MT := z_MT) (n := 5) zxp153 (z_ks6 _ (fun _ h => List.mem_cons_of_mem _ h) _ _ _ _ (fun j r h _ => by cases h)) (fun _ _ => zs_KX_p) zyw_Pilot_step (fun va F G h => by obtain ⟨rfl, _⟩ := h; rfl) (fun va F G h => by obtain ⟨rfl, _⟩ := h; rfl) rfl fun good va F G hB hret hvret hP => by
  obtain ⟨rfl, rfl, rfl⟩ := hP
  unfold zf_Pilot_step at h
  refine zv_ild hB zd153_0 rfl rfl ?_
  obtain ⟨r1, hr1, h⟩ := zi_bind h
  refine zv_cs hB (zv_emq (va2 := [.inl x3]) (F := [.inr 3, .inr 5, .inl f2, .inl f3, .inl f4, .inl f5, .inl f6, .inl f7, .inl f8, .inl f9, .inl f10, .inl f11, .inl f12, .inl f13, .inl f14, .inl f15]) (F' := [.inr 3, .inr 5, .inl f2, .inl f3, .inl f4, .inl f5, .inl f6, .inl f7, .inl f8, .inl f9, .inl f10, .inl f11, .inl f12, .inl f13, .inl f14, .inl f15]) (G := [g0, g1, g2, g3, g4, g5, g6, g7, g8, g9, g10]) (G' := [g0, g1, g2, g3, g4, g5, g6, g7, g8, g9, g10]) (ρ := []) (φ := []) (ψ := []) [none, none, none, none, none, none, none, none, none, none, none, none, none, none, none, none] [none, none, none, none, none, none, none, none, none, none, none] zyw_X_columnOf zyw_Pilot_step zye_Pilot_step (by decide +kernel) (zt_X_columnOf hr1) trivial trivial rfl rfl rfl rfl rfl rfl rfl) zd153_1 zxt31 rfl (by decide) (by decide) rfl ?_
  refine zv_ist hB zd153_4 rfl rfl rfl ?_
  refine zv_ild hB zd153_6 rfl rfl ?_
  obtain ⟨r2, hr2, h⟩ := zi_bind h
  refine zv_cs hB (zv_emq (va2 := [.inl x3]) (F := [.inr 3, .inr 5, .inl f2, .inl f3, .inl f4, .inl f5, .inl f6, .inl f7, .inl f8, .inl f9, .inl f10, .inl f11, .inl f12, .inl f13, .inl f14, .inl f15]) (F' := [.inr 3, .inr 5, .inl f2, .inl f3, .inl f4, .inl f5, .inl f6, .inl f7, .inl f8, .inl f9, .inl f10, .inl f11, .inl f12, .inl f13, .inl f14, .inl f15]) (G := [g0, g1, g2, g3, g4, g5, g6, g7, g8, g9, g10]) (G' := [g0, g1, g2, g3, g4, g5, g6, g7, g8, g9, g10]) (ρ := []) (φ := []) (ψ := []) [none, none, none, none, none, none, none, none, none, none, none, none, none, none, none, none] [none, none, none, none, none, none, none, none, none, none, none] zyw_X_rowOf zyw_Pilot_step zye_Pilot_step (by decide +kernel) (zt_X_rowOf hr2) trivial trivial rfl rfl rfl rfl rfl rfl rfl) zd153_7 zxt30 rfl (by decide) (by decide) rfl ?_
  refine zv_ist hB zd153_10 rfl rfl rfl ?_
  refine zv_ald hB zd153_12 rfl rfl rfl ?_
  refine zv_ild hB zd153_13 rfl rfl ?_
  refine zv_ild hB zd153_15 rfl rfl ?_
  obtain ⟨r3, hr3, h⟩ := zi_bind h
  refine zv_cv hB (zv_emq (va2 := [.inr 1, .inl r1, .inl r2]) (F := [.inr 3, .inr 5, .inl f2, .inl f3, .inl f4, .inl f5, .inl f6, .inl f7, .inl f8, .inl f9, .inl f10, .inl f11, .inl f12, .inl f13, .inl f14, .inl f15]) (F' := [.inr 3, .inr 5, .inl r3.1, .inl r3.2.1, .inl f4, .inl f5, .inl f6, .inl f7, .inl f8, .inl f9, .inl f10, .inl f11, .inl f12, .inl f13, .inl f14, .inl f15]) (G := [g0, g1, g2, g3, g4, g5, g6, g7, g8, g9, g10]) (G' := [r3.2.2, g1, g2, g3, g4, g5, g6, g7, g8, g9, g10]) (ρ := [1, 3, 4, 5]) (φ := [2, 3, 0, 1, 4, 5]) (ψ := [0]) [some 2, some 3, some 0, some 1, some 4, some 5, none, none, none, none, none, none, none, none, none, none] [some 0, none, none, none, none, none, none, none, none, none, none] zyw_View_goTo zyw_Pilot_step zye_Pilot_step (by decide +kernel) (zt_View_goTo hr3) ⟨⟨_, rfl, fun _ => rfl⟩, ⟨_, rfl, fun _ => rfl⟩, ⟨_, rfl, fun _ => rfl⟩, ⟨_, rfl, fun _ => rfl⟩, ⟨_, rfl, fun _ => rfl⟩, ⟨_, rfl, fun _ => rfl⟩, trivial⟩ ⟨rfl, trivial⟩ rfl rfl rfl rfl rfl rfl rfl) zd153_17 zxt86 rfl (by decide) (by decide) rfl ?_
  refine zv_ald hB zd153_20 rfl rfl rfl ?_
  refine zv_ild hB zd153_21 rfl rfl ?_
  obtain ⟨r4, hr4, h⟩ := zi_bind h
  refine zv_cv hB (zv_emq (va2 := [.inr 1, .inl x4]) (F := [.inr 3, .inr 5, .inl r3.1, .inl r3.2.1, .inl f4, .inl f5, .inl f6, .inl f7, .inl f8, .inl f9, .inl f10, .inl f11, .inl f12, .inl f13, .inl f14, .inl f15]) (F' := [.inr 3, .inr 5, .inl r3.1, .inl r3.2.1, .inl f4, .inl f5, .inl f6, .inl f7, .inl f8, .inl f9, .inl f10, .inl r4.2.1, .inl r4.2.2.1, .inl f13, .inl r4.2.2.2.1, .inl f15]) (G := [r3.2.2, g1, g2, g3, g4, g5, g6, g7, g8, g9, g10]) (G' := [r4.2.2.2.2.1, g1, g2, g3, g4, g5, g6, g7, r4.2.2.2.2.2, g9, g10]) (ρ := [1, 5, 6, 7, 3, 4, 8, 9, 10, 11, 12, 13, 14]) (φ := [1, 6, 4, 2, 3, 7, 8, 9, 0, 10, 11, 12, 13, 14, 15]) (ψ := [1, 2, 0, 3, 4, 5, 6, 7, 8, 9]) [some 8, some 0, some 3, some 4, some 2, none, some 1, some 5, some 6, some 7, some 9, some 10, some 11, some 12, some 13, some 14] [some 2, some 0, some 1, some 3, some 4, some 5, some 6, some 7, some 8, some 9, none] zyw_View_sees zyw_Pilot_step zye_Pilot_step (by decide +kernel) (zt_View_sees hr4) ⟨⟨_, rfl, fun _ => rfl⟩, ⟨_, rfl, fun _ => rfl⟩, ⟨_, rfl, fun _ => rfl⟩, ⟨_, rfl, fun _ => rfl⟩, ⟨_, rfl, fun _ => rfl⟩, ⟨_, rfl, fun _ => rfl⟩, ⟨_, rfl, fun _ => rfl⟩, ⟨_, rfl, fun _ => rfl⟩, ⟨_, rfl, fun _ => rfl⟩, ⟨_, rfl, fun _ => rfl⟩, ⟨_, rfl, fun _ => rfl⟩, ⟨_, rfl, fun _ => rfl⟩, ⟨_, rfl, fun _ => rfl⟩, ⟨_, rfl, fun _ => rfl⟩, ⟨_, rfl, fun _ => rfl⟩, trivial⟩ ⟨rfl, rfl, rfl, rfl, rfl, rfl, rfl, rfl, rfl, rfl, trivial⟩ rfl rfl rfl rfl rfl rfl rfl) zd153_23 zxt89 rfl (by decide) (by decide) rfl ?_
  refine zv_zne hB zd153_26 rfl (fun hc5 => ?_) (fun hc5 => ?_)
  · rw [if_neg hc5] at h
    refine zv_ald hB zd153_31 rfl rfl rfl ?_
    refine zv_getq hB zd153_32 rfl rfl rfl ?_
    refine zv_ild hB zd153_35 rfl rfl ?_
    obtain ⟨r6, hr6, h⟩ := zi_bind h
    refine zv_cv hB (zv_emq (va2 := [.inr 5, .inl x4]) (F := [.inr 3, .inr 5, .inl r3.1, .inl r3.2.1, .inl f4, .inl f5, .inl f6, .inl f7, .inl f8, .inl f9, .inl f10, .inl r4.2.1, .inl r4.2.2.1, .inl f13, .inl r4.2.2.2.1, .inl f15]) (F' := [.inr 3, .inr 5, .inl r3.1, .inl r3.2.1, .inl f4, .inl f5, .inl f6, .inl f7, .inl f8, .inl f9, .inl f10, .inl r4.2.1, .inl r4.2.2.1, .inl f13, .inl r4.2.2.2.1, .inl f15]) (G := [r4.2.2.2.2.1, g1, g2, g3, g4, g5, g6, g7, r4.2.2.2.2.2, g9, g10]) (G' := [r4.2.2.2.2.1, g1, g2, g3, g4, g5, g6, g7, r4.2.2.2.2.2, g9, g10]) (ρ := [5, 6]) (φ := [4]) (ψ := [1]) [none, none, none, none, some 0, none, none, none, none, none, none, none, none, none, none, none] [none, some 0, none, none, none, none, none, none, none, none, none] zyw_Sky_standing zyw_Pilot_step zye_Pilot_step (by decide +kernel) (zt_Sky_standing hr6) ⟨⟨_, rfl, fun _ => rfl⟩, trivial⟩ ⟨rfl, trivial⟩ rfl rfl rfl rfl rfl rfl rfl) zd153_37 zxt82 rfl (by decide) (by decide) rfl ?_
    refine zv_ild hB zd153_40 rfl rfl ?_
    refine zv_subw hB zd153_42 ?_
    refine zv_con hB zd153_43 rfl ?_
    obtain ⟨r7, hr7, h⟩ := zi_bind h
    refine zv_cs hB (zv_emq (va2 := [.inl (zi_w (r6 - r1)), .inl 24]) (F := [.inr 3, .inr 5, .inl r3.1, .inl r3.2.1, .inl f4, .inl f5, .inl f6, .inl f7, .inl f8, .inl f9, .inl f10, .inl r4.2.1, .inl r4.2.2.1, .inl f13, .inl r4.2.2.2.1, .inl f15]) (F' := [.inr 3, .inr 5, .inl r3.1, .inl r3.2.1, .inl f4, .inl f5, .inl f6, .inl f7, .inl f8, .inl f9, .inl f10, .inl r4.2.1, .inl r4.2.2.1, .inl f13, .inl r4.2.2.2.1, .inl f15]) (G := [r4.2.2.2.2.1, g1, g2, g3, g4, g5, g6, g7, r4.2.2.2.2.2, g9, g10]) (G' := [r4.2.2.2.2.1, g1, g2, g3, g4, g5, g6, g7, r4.2.2.2.2.2, g9, g10]) (ρ := []) (φ := []) (ψ := []) [none, none, none, none, none, none, none, none, none, none, none, none, none, none, none, none] [none, none, none, none, none, none, none, none, none, none, none] zyw_Math_floorMod zyw_Pilot_step zye_Pilot_step (by decide +kernel) (zt_Math_floorMod hr7) trivial trivial rfl rfl rfl rfl rfl rfl rfl) zd153_45 zxt129 rfl (by decide) (by decide) rfl ?_
    refine zv_ist hB zd153_48 rfl rfl rfl ?_
    refine zv_ild hB zd153_50 rfl rfl ?_
    refine zv_con hB zd153_52 rfl ?_
    refine zv_ild hB zd153_54 rfl rfl ?_
    refine zv_subw hB zd153_56 ?_
    obtain ⟨r8, hr8, h⟩ := zi_bind h
    refine zv_cs hB (zv_emq (va2 := [.inl r7, .inl (zi_w (24 - r7))]) (F := [.inr 3, .inr 5, .inl r3.1, .inl r3.2.1, .inl f4, .inl f5, .inl f6, .inl f7, .inl f8, .inl f9, .inl f10, .inl r4.2.1, .inl r4.2.2.1, .inl f13, .inl r4.2.2.2.1, .inl f15]) (F' := [.inr 3, .inr 5, .inl r3.1, .inl r3.2.1, .inl f4, .inl f5, .inl f6, .inl f7, .inl f8, .inl f9, .inl f10, .inl r4.2.1, .inl r4.2.2.1, .inl f13, .inl r4.2.2.2.1, .inl f15]) (G := [r4.2.2.2.2.1, g1, g2, g3, g4, g5, g6, g7, r4.2.2.2.2.2, g9, g10]) (G' := [r4.2.2.2.2.1, g1, g2, g3, g4, g5, g6, g7, r4.2.2.2.2.2, g9, g10]) (ρ := []) (φ := []) (ψ := []) [none, none, none, none, none, none, none, none, none, none, none, none, none, none, none, none] [none, none, none, none, none, none, none, none, none, none, none] zyw_Math_min zyw_Pilot_step zye_Pilot_step (by decide +kernel) (zt_Math_min hr8) trivial trivial rfl rfl rfl rfl rfl rfl rfl) zd153_57 zxt37 rfl (by decide) (by decide) rfl ?_
    refine zv_ist hB zd153_60 rfl rfl rfl ?_
    refine zv_ald hB zd153_62 rfl rfl rfl ?_
    refine zv_getq hB zd153_63 rfl rfl rfl ?_
    refine zv_getr hB zd153_66 rfl ?_
    refine zv_ild hB zd153_69 rfl rfl ?_
    obtain ⟨c9, h⟩ := zi_if h
    refine zv_iald hB zd153_71 rfl rfl (zi_ix_ok c9).1 (zi_ix_ok c9).2 (fun _ _ => ?_)
    refine zv_ild hB zd153_72 rfl rfl ?_
    refine zv_subw hB zd153_74 ?_
    refine zv_ist hB zd153_75 rfl rfl rfl ?_
    refine zv_ild hB zd153_77 rfl rfl ?_
    refine zv_zne hB zd153_79 rfl (fun hc10 => ?_) (fun hc10 => ?_)
    · rw [if_neg hc10] at h
      refine zv_ild hB zd153_89 rfl rfl ?_
      refine zv_ild hB zd153_91 rfl rfl ?_
      obtain ⟨r11, hr11, h⟩ := zi_bind h
      refine zv_cs hB (zv_emq (va2 := [.inl (zi_w ((g2 x4) - r2))]) (F := [.inr 3, .inr 5, .inl r3.1, .inl r3.2.1, .inl f4, .inl f5, .inl f6, .inl f7, .inl f8, .inl f9, .inl f10, .inl r4.2.1, .inl r4.2.2.1, .inl f13, .inl r4.2.2.2.1, .inl f15]) (F' := [.inr 3, .inr 5, .inl r3.1, .inl r3.2.1, .inl f4, .inl f5, .inl f6, .inl f7, .inl f8, .inl f9, .inl f10, .inl r4.2.1, .inl r4.2.2.1, .inl f13, .inl r4.2.2.2.1, .inl f15]) (G := [r4.2.2.2.2.1, g1, g2, g3, g4, g5, g6, g7, r4.2.2.2.2.2, g9, g10]) (G' := [r4.2.2.2.2.1, g1, g2, g3, g4, g5, g6, g7, r4.2.2.2.2.2, g9, g10]) (ρ := []) (φ := []) (ψ := []) [none, none, none, none, none, none, none, none, none, none, none, none, none, none, none, none] [none, none, none, none, none, none, none, none, none, none, none] zyw_Math_abs zyw_Pilot_step zye_Pilot_step (by decide +kernel) (zt_Math_abs hr11) trivial trivial rfl rfl rfl rfl rfl rfl rfl) zd153_93 zxt91 rfl (by decide) (by decide) rfl ?_
      refine zv_clt hB zd153_96 rfl (fun hc12 => ?_) (fun hc12 => ?_)
      · rw [if_pos hc12] at h
        refine zv_ild hB zd153_116 rfl rfl ?_
        refine zv_zle hB zd153_118 rfl (fun hc13 => ?_) (fun hc13 => ?_)
        · rw [if_neg (Int.not_lt.mpr hc13)] at h
          refine zv_con hB zd153_125 rfl ?_
          refine zv_ist hB zd153_126 rfl rfl rfl ?_
          refine zv_ald hB zd153_128 rfl rfl rfl ?_
          refine zv_ild hB zd153_129 rfl rfl ?_
          refine zv_ild hB zd153_130 rfl rfl ?_
          obtain ⟨r14, hr14, h⟩ := zi_bind h
          refine zv_cv hB (zv_emq (va2 := [.inr 2, .inl x3, .inl 4]) (F := [.inr 3, .inr 5, .inl r3.1, .inl r3.2.1, .inl f4, .inl f5, .inl f6, .inl f7, .inl f8, .inl f9, .inl f10, .inl r4.2.1, .inl r4.2.2.1, .inl f13, .inl r4.2.2.2.1, .inl f15]) (F' := [.inr 3, .inr 5, .inl r3.1, .inl r3.2.1, .inl f4, .inl f5, .inl f6, .inl f7, .inl f8, .inl f9, .inl f10, .inl r4.2.1, .inl r4.2.2.1, .inl f13, .inl r4.2.2.2.1, .inl f15]) (G := [r4.2.2.2.2.1, g1, g2, g3, g4, g5, g6, g7, r4.2.2.2.2.2, g9, g10]) (G' := [r4.2.2.2.2.1, g1, g2, g3, g4, g5, g6, g7, r4.2.2.2.2.2, g9, g10]) (ρ := [2, 15]) (φ := []) (ψ := [10]) [none, none, none, none, none, none, none, none, none, none, none, none, none, none, none, none] [none, none, none, none, none, none, none, none, none, none, some 0] zyw_Sea_goFrom zyw_Pilot_step zye_Pilot_step (by decide +kernel) (zt_Sea_goFrom hr14) trivial ⟨rfl, trivial⟩ rfl rfl rfl rfl rfl rfl rfl) zd153_132 zxt154 rfl (by decide) (by decide) rfl ?_
          refine zv_ist hB zd153_135 rfl rfl rfl ?_
          refine zv_ild hB zd153_137 rfl rfl ?_
          refine zv_con hB zd153_139 rfl ?_
          refine zv_cne hB zd153_140 rfl (fun hc15 => ?_) (fun hc15 => ?_)
          · rw [if_neg hc15] at h
            refine zv_ild hB zd153_147 rfl rfl ?_
            have hw := Option.some.inj h
            subst hw
            exact hret _ _ _ _ _ zd153_149 (by trivial) ⟨rfl, rfl, rfl⟩
          · rw [if_pos hc15] at h
            refine zv_ild hB zd153_143 rfl rfl ?_
            refine zv_goto hB zd153_144 rfl ?_
            have hw := Option.some.inj h
            subst hw
            exact hret _ _ _ _ _ zd153_149 (by trivial) ⟨rfl, rfl, rfl⟩
        · rw [if_pos hc13] at h
          refine zv_con hB zd153_121 rfl ?_
          refine zv_goto hB zd153_122 rfl ?_
          refine zv_ist hB zd153_126 rfl rfl rfl ?_
          refine zv_ald hB zd153_128 rfl rfl rfl ?_
          refine zv_ild hB zd153_129 rfl rfl ?_
          refine zv_ild hB zd153_130 rfl rfl ?_
          obtain ⟨r16, hr16, h⟩ := zi_bind h
          refine zv_cv hB (zv_emq (va2 := [.inr 2, .inl x3, .inl 3]) (F := [.inr 3, .inr 5, .inl r3.1, .inl r3.2.1, .inl f4, .inl f5, .inl f6, .inl f7, .inl f8, .inl f9, .inl f10, .inl r4.2.1, .inl r4.2.2.1, .inl f13, .inl r4.2.2.2.1, .inl f15]) (F' := [.inr 3, .inr 5, .inl r3.1, .inl r3.2.1, .inl f4, .inl f5, .inl f6, .inl f7, .inl f8, .inl f9, .inl f10, .inl r4.2.1, .inl r4.2.2.1, .inl f13, .inl r4.2.2.2.1, .inl f15]) (G := [r4.2.2.2.2.1, g1, g2, g3, g4, g5, g6, g7, r4.2.2.2.2.2, g9, g10]) (G' := [r4.2.2.2.2.1, g1, g2, g3, g4, g5, g6, g7, r4.2.2.2.2.2, g9, g10]) (ρ := [2, 15]) (φ := []) (ψ := [10]) [none, none, none, none, none, none, none, none, none, none, none, none, none, none, none, none] [none, none, none, none, none, none, none, none, none, none, some 0] zyw_Sea_goFrom zyw_Pilot_step zye_Pilot_step (by decide +kernel) (zt_Sea_goFrom hr16) trivial ⟨rfl, trivial⟩ rfl rfl rfl rfl rfl rfl rfl) zd153_132 zxt154 rfl (by decide) (by decide) rfl ?_
          refine zv_ist hB zd153_135 rfl rfl rfl ?_
          refine zv_ild hB zd153_137 rfl rfl ?_
          refine zv_con hB zd153_139 rfl ?_
          refine zv_cne hB zd153_140 rfl (fun hc17 => ?_) (fun hc17 => ?_)
          · rw [if_neg hc17] at h
            refine zv_ild hB zd153_147 rfl rfl ?_
            have hw := Option.some.inj h
            subst hw
            exact hret _ _ _ _ _ zd153_149 (by trivial) ⟨rfl, rfl, rfl⟩
          · rw [if_pos hc17] at h
            refine zv_ild hB zd153_143 rfl rfl ?_
            refine zv_goto hB zd153_144 rfl ?_
            have hw := Option.some.inj h
            subst hw
            exact hret _ _ _ _ _ zd153_149 (by trivial) ⟨rfl, rfl, rfl⟩
      · rw [if_neg (Int.not_lt.mpr hc12)] at h
        refine zv_ild hB zd153_99 rfl rfl ?_
        refine zv_con hB zd153_101 rfl ?_
        refine zv_cgt hB zd153_103 rfl (fun hc18 => ?_) (fun hc18 => ?_)
        · rw [if_pos hc18] at h
          refine zv_con hB zd153_110 rfl ?_
          refine zv_ist hB zd153_111 rfl rfl rfl ?_
          refine zv_goto hB zd153_113 rfl ?_
          refine zv_ald hB zd153_128 rfl rfl rfl ?_
          refine zv_ild hB zd153_129 rfl rfl ?_
          refine zv_ild hB zd153_130 rfl rfl ?_
          obtain ⟨r19, hr19, h⟩ := zi_bind h
          refine zv_cv hB (zv_emq (va2 := [.inr 2, .inl x3, .inl 2]) (F := [.inr 3, .inr 5, .inl r3.1, .inl r3.2.1, .inl f4, .inl f5, .inl f6, .inl f7, .inl f8, .inl f9, .inl f10, .inl r4.2.1, .inl r4.2.2.1, .inl f13, .inl r4.2.2.2.1, .inl f15]) (F' := [.inr 3, .inr 5, .inl r3.1, .inl r3.2.1, .inl f4, .inl f5, .inl f6, .inl f7, .inl f8, .inl f9, .inl f10, .inl r4.2.1, .inl r4.2.2.1, .inl f13, .inl r4.2.2.2.1, .inl f15]) (G := [r4.2.2.2.2.1, g1, g2, g3, g4, g5, g6, g7, r4.2.2.2.2.2, g9, g10]) (G' := [r4.2.2.2.2.1, g1, g2, g3, g4, g5, g6, g7, r4.2.2.2.2.2, g9, g10]) (ρ := [2, 15]) (φ := []) (ψ := [10]) [none, none, none, none, none, none, none, none, none, none, none, none, none, none, none, none] [none, none, none, none, none, none, none, none, none, none, some 0] zyw_Sea_goFrom zyw_Pilot_step zye_Pilot_step (by decide +kernel) (zt_Sea_goFrom hr19) trivial ⟨rfl, trivial⟩ rfl rfl rfl rfl rfl rfl rfl) zd153_132 zxt154 rfl (by decide) (by decide) rfl ?_
          refine zv_ist hB zd153_135 rfl rfl rfl ?_
          refine zv_ild hB zd153_137 rfl rfl ?_
          refine zv_con hB zd153_139 rfl ?_
          refine zv_cne hB zd153_140 rfl (fun hc20 => ?_) (fun hc20 => ?_)
          · rw [if_neg hc20] at h
            refine zv_ild hB zd153_147 rfl rfl ?_
            have hw := Option.some.inj h
            subst hw
            exact hret _ _ _ _ _ zd153_149 (by trivial) ⟨rfl, rfl, rfl⟩
          · rw [if_pos hc20] at h
            refine zv_ild hB zd153_143 rfl rfl ?_
            refine zv_goto hB zd153_144 rfl ?_
            have hw := Option.some.inj h
            subst hw
            exact hret _ _ _ _ _ zd153_149 (by trivial) ⟨rfl, rfl, rfl⟩
        · rw [if_neg (Int.not_lt.mpr hc18)] at h
          refine zv_con hB zd153_106 rfl ?_
          refine zv_goto hB zd153_107 rfl ?_
          refine zv_ist hB zd153_111 rfl rfl rfl ?_
          refine zv_goto hB zd153_113 rfl ?_
          refine zv_ald hB zd153_128 rfl rfl rfl ?_
          refine zv_ild hB zd153_129 rfl rfl ?_
          refine zv_ild hB zd153_130 rfl rfl ?_
          obtain ⟨r21, hr21, h⟩ := zi_bind h
          refine zv_cv hB (zv_emq (va2 := [.inr 2, .inl x3, .inl 1]) (F := [.inr 3, .inr 5, .inl r3.1, .inl r3.2.1, .inl f4, .inl f5, .inl f6, .inl f7, .inl f8, .inl f9, .inl f10, .inl r4.2.1, .inl r4.2.2.1, .inl f13, .inl r4.2.2.2.1, .inl f15]) (F' := [.inr 3, .inr 5, .inl r3.1, .inl r3.2.1, .inl f4, .inl f5, .inl f6, .inl f7, .inl f8, .inl f9, .inl f10, .inl r4.2.1, .inl r4.2.2.1, .inl f13, .inl r4.2.2.2.1, .inl f15]) (G := [r4.2.2.2.2.1, g1, g2, g3, g4, g5, g6, g7, r4.2.2.2.2.2, g9, g10]) (G' := [r4.2.2.2.2.1, g1, g2, g3, g4, g5, g6, g7, r4.2.2.2.2.2, g9, g10]) (ρ := [2, 15]) (φ := []) (ψ := [10]) [none, none, none, none, none, none, none, none, none, none, none, none, none, none, none, none] [none, none, none, none, none, none, none, none, none, none, some 0] zyw_Sea_goFrom zyw_Pilot_step zye_Pilot_step (by decide +kernel) (zt_Sea_goFrom hr21) trivial ⟨rfl, trivial⟩ rfl rfl rfl rfl rfl rfl rfl) zd153_132 zxt154 rfl (by decide) (by decide) rfl ?_
          refine zv_ist hB zd153_135 rfl rfl rfl ?_
          refine zv_ild hB zd153_137 rfl rfl ?_
          refine zv_con hB zd153_139 rfl ?_
          refine zv_cne hB zd153_140 rfl (fun hc22 => ?_) (fun hc22 => ?_)
          · rw [if_neg hc22] at h
            refine zv_ild hB zd153_147 rfl rfl ?_
            have hw := Option.some.inj h
            subst hw
            exact hret _ _ _ _ _ zd153_149 (by trivial) ⟨rfl, rfl, rfl⟩
          · rw [if_pos hc22] at h
            refine zv_ild hB zd153_143 rfl rfl ?_
            refine zv_goto hB zd153_144 rfl ?_
            have hw := Option.some.inj h
            subst hw
            exact hret _ _ _ _ _ zd153_149 (by trivial) ⟨rfl, rfl, rfl⟩
    · rw [if_pos hc10] at h
      refine zv_ild hB zd153_82 rfl rfl ?_
      refine zv_zne hB zd153_84 rfl (fun hc23 => ?_) (fun hc23 => ?_)
      · rw [if_neg hc23] at h
        refine zv_ild hB zd153_89 rfl rfl ?_
        refine zv_ild hB zd153_91 rfl rfl ?_
        obtain ⟨r24, hr24, h⟩ := zi_bind h
        refine zv_cs hB (zv_emq (va2 := [.inl (zi_w ((g2 x4) - r2))]) (F := [.inr 3, .inr 5, .inl r3.1, .inl r3.2.1, .inl f4, .inl f5, .inl f6, .inl f7, .inl f8, .inl f9, .inl f10, .inl r4.2.1, .inl r4.2.2.1, .inl f13, .inl r4.2.2.2.1, .inl f15]) (F' := [.inr 3, .inr 5, .inl r3.1, .inl r3.2.1, .inl f4, .inl f5, .inl f6, .inl f7, .inl f8, .inl f9, .inl f10, .inl r4.2.1, .inl r4.2.2.1, .inl f13, .inl r4.2.2.2.1, .inl f15]) (G := [r4.2.2.2.2.1, g1, g2, g3, g4, g5, g6, g7, r4.2.2.2.2.2, g9, g10]) (G' := [r4.2.2.2.2.1, g1, g2, g3, g4, g5, g6, g7, r4.2.2.2.2.2, g9, g10]) (ρ := []) (φ := []) (ψ := []) [none, none, none, none, none, none, none, none, none, none, none, none, none, none, none, none] [none, none, none, none, none, none, none, none, none, none, none] zyw_Math_abs zyw_Pilot_step zye_Pilot_step (by decide +kernel) (zt_Math_abs hr24) trivial trivial rfl rfl rfl rfl rfl rfl rfl) zd153_93 zxt91 rfl (by decide) (by decide) rfl ?_
        refine zv_clt hB zd153_96 rfl (fun hc25 => ?_) (fun hc25 => ?_)
        · rw [if_pos hc25] at h
          refine zv_ild hB zd153_116 rfl rfl ?_
          refine zv_zle hB zd153_118 rfl (fun hc26 => ?_) (fun hc26 => ?_)
          · rw [if_neg (Int.not_lt.mpr hc26)] at h
            refine zv_con hB zd153_125 rfl ?_
            refine zv_ist hB zd153_126 rfl rfl rfl ?_
            refine zv_ald hB zd153_128 rfl rfl rfl ?_
            refine zv_ild hB zd153_129 rfl rfl ?_
            refine zv_ild hB zd153_130 rfl rfl ?_
            obtain ⟨r27, hr27, h⟩ := zi_bind h
            refine zv_cv hB (zv_emq (va2 := [.inr 2, .inl x3, .inl 4]) (F := [.inr 3, .inr 5, .inl r3.1, .inl r3.2.1, .inl f4, .inl f5, .inl f6, .inl f7, .inl f8, .inl f9, .inl f10, .inl r4.2.1, .inl r4.2.2.1, .inl f13, .inl r4.2.2.2.1, .inl f15]) (F' := [.inr 3, .inr 5, .inl r3.1, .inl r3.2.1, .inl f4, .inl f5, .inl f6, .inl f7, .inl f8, .inl f9, .inl f10, .inl r4.2.1, .inl r4.2.2.1, .inl f13, .inl r4.2.2.2.1, .inl f15]) (G := [r4.2.2.2.2.1, g1, g2, g3, g4, g5, g6, g7, r4.2.2.2.2.2, g9, g10]) (G' := [r4.2.2.2.2.1, g1, g2, g3, g4, g5, g6, g7, r4.2.2.2.2.2, g9, g10]) (ρ := [2, 15]) (φ := []) (ψ := [10]) [none, none, none, none, none, none, none, none, none, none, none, none, none, none, none, none] [none, none, none, none, none, none, none, none, none, none, some 0] zyw_Sea_goFrom zyw_Pilot_step zye_Pilot_step (by decide +kernel) (zt_Sea_goFrom hr27) trivial ⟨rfl, trivial⟩ rfl rfl rfl rfl rfl rfl rfl) zd153_132 zxt154 rfl (by decide) (by decide) rfl ?_
            refine zv_ist hB zd153_135 rfl rfl rfl ?_
            refine zv_ild hB zd153_137 rfl rfl ?_
            refine zv_con hB zd153_139 rfl ?_
            refine zv_cne hB zd153_140 rfl (fun hc28 => ?_) (fun hc28 => ?_)
            · rw [if_neg hc28] at h
              refine zv_ild hB zd153_147 rfl rfl ?_
              have hw := Option.some.inj h
              subst hw
              exact hret _ _ _ _ _ zd153_149 (by trivial) ⟨rfl, rfl, rfl⟩
            · rw [if_pos hc28] at h
              refine zv_ild hB zd153_143 rfl rfl ?_
              refine zv_goto hB zd153_144 rfl ?_
              have hw := Option.some.inj h
              subst hw
              exact hret _ _ _ _ _ zd153_149 (by trivial) ⟨rfl, rfl, rfl⟩
          · rw [if_pos hc26] at h
            refine zv_con hB zd153_121 rfl ?_
            refine zv_goto hB zd153_122 rfl ?_
            refine zv_ist hB zd153_126 rfl rfl rfl ?_
            refine zv_ald hB zd153_128 rfl rfl rfl ?_
            refine zv_ild hB zd153_129 rfl rfl ?_
            refine zv_ild hB zd153_130 rfl rfl ?_
            obtain ⟨r29, hr29, h⟩ := zi_bind h
            refine zv_cv hB (zv_emq (va2 := [.inr 2, .inl x3, .inl 3]) (F := [.inr 3, .inr 5, .inl r3.1, .inl r3.2.1, .inl f4, .inl f5, .inl f6, .inl f7, .inl f8, .inl f9, .inl f10, .inl r4.2.1, .inl r4.2.2.1, .inl f13, .inl r4.2.2.2.1, .inl f15]) (F' := [.inr 3, .inr 5, .inl r3.1, .inl r3.2.1, .inl f4, .inl f5, .inl f6, .inl f7, .inl f8, .inl f9, .inl f10, .inl r4.2.1, .inl r4.2.2.1, .inl f13, .inl r4.2.2.2.1, .inl f15]) (G := [r4.2.2.2.2.1, g1, g2, g3, g4, g5, g6, g7, r4.2.2.2.2.2, g9, g10]) (G' := [r4.2.2.2.2.1, g1, g2, g3, g4, g5, g6, g7, r4.2.2.2.2.2, g9, g10]) (ρ := [2, 15]) (φ := []) (ψ := [10]) [none, none, none, none, none, none, none, none, none, none, none, none, none, none, none, none] [none, none, none, none, none, none, none, none, none, none, some 0] zyw_Sea_goFrom zyw_Pilot_step zye_Pilot_step (by decide +kernel) (zt_Sea_goFrom hr29) trivial ⟨rfl, trivial⟩ rfl rfl rfl rfl rfl rfl rfl) zd153_132 zxt154 rfl (by decide) (by decide) rfl ?_
            refine zv_ist hB zd153_135 rfl rfl rfl ?_
            refine zv_ild hB zd153_137 rfl rfl ?_
            refine zv_con hB zd153_139 rfl ?_
            refine zv_cne hB zd153_140 rfl (fun hc30 => ?_) (fun hc30 => ?_)
            · rw [if_neg hc30] at h
              refine zv_ild hB zd153_147 rfl rfl ?_
              have hw := Option.some.inj h
              subst hw
              exact hret _ _ _ _ _ zd153_149 (by trivial) ⟨rfl, rfl, rfl⟩
            · rw [if_pos hc30] at h
              refine zv_ild hB zd153_143 rfl rfl ?_
              refine zv_goto hB zd153_144 rfl ?_
              have hw := Option.some.inj h
              subst hw
              exact hret _ _ _ _ _ zd153_149 (by trivial) ⟨rfl, rfl, rfl⟩
        · rw [if_neg (Int.not_lt.mpr hc25)] at h
          refine zv_ild hB zd153_99 rfl rfl ?_
          refine zv_con hB zd153_101 rfl ?_
          refine zv_cgt hB zd153_103 rfl (fun hc31 => ?_) (fun hc31 => ?_)
          · rw [if_pos hc31] at h
            refine zv_con hB zd153_110 rfl ?_
            refine zv_ist hB zd153_111 rfl rfl rfl ?_
            refine zv_goto hB zd153_113 rfl ?_
            refine zv_ald hB zd153_128 rfl rfl rfl ?_
            refine zv_ild hB zd153_129 rfl rfl ?_
            refine zv_ild hB zd153_130 rfl rfl ?_
            obtain ⟨r32, hr32, h⟩ := zi_bind h
            refine zv_cv hB (zv_emq (va2 := [.inr 2, .inl x3, .inl 2]) (F := [.inr 3, .inr 5, .inl r3.1, .inl r3.2.1, .inl f4, .inl f5, .inl f6, .inl f7, .inl f8, .inl f9, .inl f10, .inl r4.2.1, .inl r4.2.2.1, .inl f13, .inl r4.2.2.2.1, .inl f15]) (F' := [.inr 3, .inr 5, .inl r3.1, .inl r3.2.1, .inl f4, .inl f5, .inl f6, .inl f7, .inl f8, .inl f9, .inl f10, .inl r4.2.1, .inl r4.2.2.1, .inl f13, .inl r4.2.2.2.1, .inl f15]) (G := [r4.2.2.2.2.1, g1, g2, g3, g4, g5, g6, g7, r4.2.2.2.2.2, g9, g10]) (G' := [r4.2.2.2.2.1, g1, g2, g3, g4, g5, g6, g7, r4.2.2.2.2.2, g9, g10]) (ρ := [2, 15]) (φ := []) (ψ := [10]) [none, none, none, none, none, none, none, none, none, none, none, none, none, none, none, none] [none, none, none, none, none, none, none, none, none, none, some 0] zyw_Sea_goFrom zyw_Pilot_step zye_Pilot_step (by decide +kernel) (zt_Sea_goFrom hr32) trivial ⟨rfl, trivial⟩ rfl rfl rfl rfl rfl rfl rfl) zd153_132 zxt154 rfl (by decide) (by decide) rfl ?_
            refine zv_ist hB zd153_135 rfl rfl rfl ?_
            refine zv_ild hB zd153_137 rfl rfl ?_
            refine zv_con hB zd153_139 rfl ?_
            refine zv_cne hB zd153_140 rfl (fun hc33 => ?_) (fun hc33 => ?_)
            · rw [if_neg hc33] at h
              refine zv_ild hB zd153_147 rfl rfl ?_
              have hw := Option.some.inj h
              subst hw
              exact hret _ _ _ _ _ zd153_149 (by trivial) ⟨rfl, rfl, rfl⟩
            · rw [if_pos hc33] at h
              refine zv_ild hB zd153_143 rfl rfl ?_
              refine zv_goto hB zd153_144 rfl ?_
              have hw := Option.some.inj h
              subst hw
              exact hret _ _ _ _ _ zd153_149 (by trivial) ⟨rfl, rfl, rfl⟩
          · rw [if_neg (Int.not_lt.mpr hc31)] at h
            refine zv_con hB zd153_106 rfl ?_
            refine zv_goto hB zd153_107 rfl ?_
            refine zv_ist hB zd153_111 rfl rfl rfl ?_
            refine zv_goto hB zd153_113 rfl ?_
            refine zv_ald hB zd153_128 rfl rfl rfl ?_
            refine zv_ild hB zd153_129 rfl rfl ?_
            refine zv_ild hB zd153_130 rfl rfl ?_
            obtain ⟨r34, hr34, h⟩ := zi_bind h
            refine zv_cv hB (zv_emq (va2 := [.inr 2, .inl x3, .inl 1]) (F := [.inr 3, .inr 5, .inl r3.1, .inl r3.2.1, .inl f4, .inl f5, .inl f6, .inl f7, .inl f8, .inl f9, .inl f10, .inl r4.2.1, .inl r4.2.2.1, .inl f13, .inl r4.2.2.2.1, .inl f15]) (F' := [.inr 3, .inr 5, .inl r3.1, .inl r3.2.1, .inl f4, .inl f5, .inl f6, .inl f7, .inl f8, .inl f9, .inl f10, .inl r4.2.1, .inl r4.2.2.1, .inl f13, .inl r4.2.2.2.1, .inl f15]) (G := [r4.2.2.2.2.1, g1, g2, g3, g4, g5, g6, g7, r4.2.2.2.2.2, g9, g10]) (G' := [r4.2.2.2.2.1, g1, g2, g3, g4, g5, g6, g7, r4.2.2.2.2.2, g9, g10]) (ρ := [2, 15]) (φ := []) (ψ := [10]) [none, none, none, none, none, none, none, none, none, none, none, none, none, none, none, none] [none, none, none, none, none, none, none, none, none, none, some 0] zyw_Sea_goFrom zyw_Pilot_step zye_Pilot_step (by decide +kernel) (zt_Sea_goFrom hr34) trivial ⟨rfl, trivial⟩ rfl rfl rfl rfl rfl rfl rfl) zd153_132 zxt154 rfl (by decide) (by decide) rfl ?_
            refine zv_ist hB zd153_135 rfl rfl rfl ?_
            refine zv_ild hB zd153_137 rfl rfl ?_
            refine zv_con hB zd153_139 rfl ?_
            refine zv_cne hB zd153_140 rfl (fun hc35 => ?_) (fun hc35 => ?_)
            · rw [if_neg hc35] at h
              refine zv_ild hB zd153_147 rfl rfl ?_
              have hw := Option.some.inj h
              subst hw
              exact hret _ _ _ _ _ zd153_149 (by trivial) ⟨rfl, rfl, rfl⟩
            · rw [if_pos hc35] at h
              refine zv_ild hB zd153_143 rfl rfl ?_
              refine zv_goto hB zd153_144 rfl ?_
              have hw := Option.some.inj h
              subst hw
              exact hret _ _ _ _ _ zd153_149 (by trivial) ⟨rfl, rfl, rfl⟩
      · rw [if_pos hc23] at h
        refine zv_ild hB zd153_87 rfl rfl ?_
        have hw := Option.some.inj h
        subst hw
        exact hret _ _ _ _ _ zd153_88 (by trivial) ⟨rfl, rfl, rfl⟩
  · rw [if_pos hc5] at h
    refine zv_ild hB zd153_29 rfl rfl ?_
    have hw := Option.some.inj h
    subst hw
    exact hret _ _ _ _ _ zd153_30 (by trivial) ⟨rfl, rfl, rfl⟩
/-! Sky_columnNextNight (I)I -/
-- names: 0 Sky('arg', 0), 1 (0, 24)(0, 1, 1), 2 (0, 24)(0, 1, 4)
-- fields: ; arrays: g0 = 1, g1 = 2; out: [('ret', None)]
abbrev zy_Sky_columnNextNight : zNL := (3, [(0, 1)], [], [(0, 1, 1, 1), (0, 1, 4, 2)], [(1, 0, 24, 0), (2, 0, 24, 1)])
theorem zyw_Sky_columnNextNight : zv_wf zy_Sky_columnNextNight = true := by decide +kernel
theorem zye_Sky_columnNextNight : zv_ek2 zy_Sky_columnNextNight = true := by decide +kernel
def zf_Sky_columnNextNight (x1 : Int) (g0 : (Int → Int)) (g1 : (Int → Int)) : Option (Int) := cond (zi_ix x1 24) ((zf_Math_floorMod (zi_w ((g0 x1) + (g1 x1))) 24).bind fun r2 => (some r2)) none
theorem zd157_0 : decode zxm157.2.1 0 = .ok (.aload_n 0, 1) := by decide +kernel
theorem zd157_1 : decode zxm157.2.1 1 = .ok (.getfield 15, 3) := by decide +kernel
theorem zd157_4 : decode zxm157.2.1 4 = .ok (.iload_n 1, 1) := by decide +kernel
theorem zd157_5 : decode zxm157.2.1 5 = .ok (.iaload, 1) := by decide +kernel
theorem zd157_6 : decode zxm157.2.1 6 = .ok (.aload_n 0, 1) := by decide +kernel
theorem zd157_7 : decode zxm157.2.1 7 = .ok (.getfield 25, 3) := by decide +kernel
theorem zd157_10 : decode zxm157.2.1 10 = .ok (.iload_n 1, 1) := by decide +kernel
theorem zd157_11 : decode zxm157.2.1 11 = .ok (.iaload, 1) := by decide +kernel
theorem zd157_12 : decode zxm157.2.1 12 = .ok (.iadd, 1) := by decide +kernel
theorem zd157_13 : decode zxm157.2.1 13 = .ok (.bipush 24, 2) := by decide +kernel
theorem zd157_15 : decode zxm157.2.1 15 = .ok (.invokestatic 49, 3) := by decide +kernel
theorem zd157_18 : decode zxm157.2.1 18 = .ok (.ireturn, 1) := by decide +kernel
theorem zt_Sky_columnNextNight {x1 : Int} {g0 : (Int → Int)} {g1 : (Int → Int)} {o : Int} (h : zf_Sky_columnNextNight x1 g0 g1 = some o) : zv_Fn z_TB z_cl z_KX zy_Sky_columnNextNight zxm157 (1, 60) [.inr 0, .inl x1] [] [g0, g1] (some o) [] [g0, g1] := zv_meth (K := (z_KF8, z_KC8, z_KL8, z_KT8, [], [], [], none)) (FT := z_FT) (MT := z_MT) (n := 2) zxp157 (z_ks8 _ (fun _ h => List.mem_cons_of_mem _ h) _ _ _ _ (fun j r h _ => by cases h)) (fun _ _ => zs_KX_p) zyw_Sky_columnNextNight (fun va F G h => by obtain ⟨rfl, _⟩ := h; rfl) (fun va F G h => by obtain ⟨rfl, _⟩ := h; rfl) rfl fun good va F G hB hret hvret hP => by
  obtain ⟨rfl, rfl, rfl⟩ := hP
  unfold zf_Sky_columnNextNight at h
  refine zv_ald hB zd157_0 rfl rfl rfl ?_
  refine zv_getr hB zd157_1 rfl ?_
  refine zv_ild hB zd157_4 rfl rfl ?_
  obtain ⟨c1, h⟩ := zi_if h
  refine zv_iald hB zd157_5 rfl rfl (zi_ix_ok c1).1 (zi_ix_ok c1).2 (fun _ _ => ?_)
  refine zv_ald hB zd157_6 rfl rfl rfl ?_
  refine zv_getr hB zd157_7 rfl ?_
  refine zv_ild hB zd157_10 rfl rfl ?_
  refine zv_iald hB zd157_11 rfl rfl (zi_ix_ok c1).1 (zi_ix_ok c1).2 (fun _ _ => ?_)
  refine zv_addw hB zd157_12 ?_
  refine zv_con hB zd157_13 rfl ?_
  obtain ⟨r2, hr2, h⟩ := zi_bind h
  refine zv_cs hB (zv_emq (va2 := [.inl (zi_w ((g0 x1) + (g1 x1))), .inl 24]) (F := []) (F' := []) (G := [g0, g1]) (G' := [g0, g1]) (ρ := []) (φ := []) (ψ := []) [] [none, none] zyw_Math_floorMod zyw_Sky_columnNextNight zye_Sky_columnNextNight (by decide +kernel) (zt_Math_floorMod hr2) trivial trivial rfl rfl rfl rfl rfl rfl rfl) zd157_15 zxt129 rfl (by decide) (by decide) rfl ?_
  have hw := Option.some.inj h
  subst hw
  exact hret _ _ _ _ _ zd157_18 (by trivial) ⟨rfl, rfl, rfl⟩
/-! Sky_rowNextNight (I)I -/
-- names: 0 Sky('arg', 0), 1 (0, 24)(0, 1, 2), 2 (0, 24)(0, 1, 5)
-- fields: ; arrays: g0 = 1, g1 = 2; out: [('ret', None)]
abbrev zy_Sky_rowNextNight : zNL := (3, [(0, 1)], [], [(0, 1, 2, 1), (0, 1, 5, 2)], [(1, 0, 24, 0), (2, 0, 24, 1)])
theorem zyw_Sky_rowNextNight : zv_wf zy_Sky_rowNextNight = true := by decide +kernel
theorem zye_Sky_rowNextNight : zv_ek2 zy_Sky_rowNextNight = true := by decide +kernel
def zf_Sky_rowNextNight (x1 : Int) (g0 : (Int → Int)) (g1 : (Int → Int)) : Option (Int) := cond (zi_ix x1 24) ((zf_Math_min 11 (zi_w ((g0 x1) + (g1 x1)))).bind fun r2 => ((zf_Math_max 0 r2).bind fun r3 => (some r3))) none
theorem zd158_0 : decode zxm158.2.1 0 = .ok (.iconst 0, 1) := by decide +kernel
theorem zd158_1 : decode zxm158.2.1 1 = .ok (.bipush 11, 2) := by decide +kernel
theorem zd158_3 : decode zxm158.2.1 3 = .ok (.aload_n 0, 1) := by decide +kernel
theorem zd158_4 : decode zxm158.2.1 4 = .ok (.getfield 19, 3) := by decide +kernel
theorem zd158_7 : decode zxm158.2.1 7 = .ok (.iload_n 1, 1) := by decide +kernel
theorem zd158_8 : decode zxm158.2.1 8 = .ok (.iaload, 1) := by decide +kernel
theorem zd158_9 : decode zxm158.2.1 9 = .ok (.aload_n 0, 1) := by decide +kernel
theorem zd158_10 : decode zxm158.2.1 10 = .ok (.getfield 28, 3) := by decide +kernel
theorem zd158_13 : decode zxm158.2.1 13 = .ok (.iload_n 1, 1) := by decide +kernel
theorem zd158_14 : decode zxm158.2.1 14 = .ok (.iaload, 1) := by decide +kernel
theorem zd158_15 : decode zxm158.2.1 15 = .ok (.iadd, 1) := by decide +kernel
theorem zd158_16 : decode zxm158.2.1 16 = .ok (.invokestatic 55, 3) := by decide +kernel
theorem zd158_19 : decode zxm158.2.1 19 = .ok (.invokestatic 58, 3) := by decide +kernel
theorem zd158_22 : decode zxm158.2.1 22 = .ok (.ireturn, 1) := by decide +kernel
theorem zt_Sky_rowNextNight {x1 : Int} {g0 : (Int → Int)} {g1 : (Int → Int)} {o : Int} (h : zf_Sky_rowNextNight x1 g0 g1 = some o) : zv_Fn z_TB z_cl z_KX zy_Sky_rowNextNight zxm158 (1, 60) [.inr 0, .inl x1] [] [g0, g1] (some o) [] [g0, g1] := zv_meth (K := (z_KF8, z_KC8, z_KL8, z_KT8, [], [], [], none)) (FT := z_FT) (MT := z_MT) (n := 2) zxp158 (z_ks8 _ (fun _ h => List.mem_cons_of_mem _ h) _ _ _ _ (fun j r h _ => by cases h)) (fun _ _ => zs_KX_p) zyw_Sky_rowNextNight (fun va F G h => by obtain ⟨rfl, _⟩ := h; rfl) (fun va F G h => by obtain ⟨rfl, _⟩ := h; rfl) rfl fun good va F G hB hret hvret hP => by
  obtain ⟨rfl, rfl, rfl⟩ := hP
  unfold zf_Sky_rowNextNight at h
  refine zv_con hB zd158_0 rfl ?_
  refine zv_con hB zd158_1 rfl ?_
  refine zv_ald hB zd158_3 rfl rfl rfl ?_
  refine zv_getr hB zd158_4 rfl ?_
  refine zv_ild hB zd158_7 rfl rfl ?_
  obtain ⟨c1, h⟩ := zi_if h
  refine zv_iald hB zd158_8 rfl rfl (zi_ix_ok c1).1 (zi_ix_ok c1).2 (fun _ _ => ?_)
  refine zv_ald hB zd158_9 rfl rfl rfl ?_
  refine zv_getr hB zd158_10 rfl ?_
  refine zv_ild hB zd158_13 rfl rfl ?_
  refine zv_iald hB zd158_14 rfl rfl (zi_ix_ok c1).1 (zi_ix_ok c1).2 (fun _ _ => ?_)
  refine zv_addw hB zd158_15 ?_
  obtain ⟨r2, hr2, h⟩ := zi_bind h
  refine zv_cs hB (zv_emq (va2 := [.inl 11, .inl (zi_w ((g0 x1) + (g1 x1)))]) (F := []) (F' := []) (G := [g0, g1]) (G' := [g0, g1]) (ρ := []) (φ := []) (ψ := []) [] [none, none] zyw_Math_min zyw_Sky_rowNextNight zye_Sky_rowNextNight (by decide +kernel) (zt_Math_min hr2) trivial trivial rfl rfl rfl rfl rfl rfl rfl) zd158_16 zxt37 rfl (by decide) (by decide) rfl ?_
  obtain ⟨r3, hr3, h⟩ := zi_bind h
  refine zv_cs hB (zv_emq (va2 := [.inl 0, .inl r2]) (F := []) (F' := []) (G := [g0, g1]) (G' := [g0, g1]) (ρ := []) (φ := []) (ψ := []) [] [none, none] zyw_Math_max zyw_Sky_rowNextNight zye_Sky_rowNextNight (by decide +kernel) (zt_Math_max hr3) trivial trivial rfl rfl rfl rfl rfl rfl rfl) zd158_19 zxt55 rfl (by decide) (by decide) rfl ?_
  have hw := Option.some.inj h
  subst hw
  exact hret _ _ _ _ _ zd158_22 (by trivial) ⟨rfl, rfl, rfl⟩
/-! Sky_beginNight ()V -/
-- names: 0 Sky('arg', 0), 1 (0, 24)(0, 1, 1), 2 (0, 24)(0, 1, 4), 3 (0, 24)(0, 1, 2), 4 (0, 24)(0, 1, 5)
-- fields: f0 = 0.night_; arrays: g0 = 1, g1 = 2, g2 = 3, g3 = 4; out: [('f', 0), ('g', 0), ('g', 2)]
abbrev zy_Sky_beginNight : zNL := (5, [(0, 1)], [(0, 1, 7, 0)], [(0, 1, 1, 1), (0, 1, 4, 2), (0, 1, 2, 3), (0, 1, 5, 4)], [(1, 0, 24, 0), (2, 0, 24, 1), (3, 0, 24, 2), (4, 0, 24, 3)])
theorem zyw_Sky_beginNight : zv_wf zy_Sky_beginNight = true := by decide +kernel
theorem zye_Sky_beginNight : zv_ek2 zy_Sky_beginNight = true := by decide +kernel
def zf_Sky_beginNight_l0_b (g1 : (Int → Int)) (g3 : (Int → Int)) (rec : Int → (Int → Int) → (Int → Int) → Option ((Int → Int) × (Int → Int))) (x1 : Int) (g0 : (Int → Int)) (g2 : (Int → Int)) : Option ((Int → Int) × (Int → Int)) := if x1 < 24 then ((zf_Sky_columnNextNight x1 g0 g1).bind fun r2 => (cond (zi_ix x1 24) ((zf_Sky_rowNextNight x1 g2 g3).bind fun r4 => (rec (zi_w (x1 + 1)) (zv_up g0 x1 r2) (zv_up g2 x1 r4))) none)) else (some (g0, g2))
def zf_Sky_beginNight_l0 (g1 : (Int → Int)) (g3 : (Int → Int)) : Nat → Int → (Int → Int) → (Int → Int) → Option ((Int → Int) × (Int → Int))
  | 0, _, _, _ => none
  | n + 1, x1, g0, g2 => zf_Sky_beginNight_l0_b g1 g3 (zf_Sky_beginNight_l0 g1 g3 n) x1 g0 g2
def zf_Sky_beginNight (f0 : Int) (g0 : (Int → Int)) (g1 : (Int → Int)) (g2 : (Int → Int)) (g3 : (Int → Int)) : Option (Int × (Int → Int) × (Int → Int)) := (zf_Sky_beginNight_l0 g1 g3 zi_fu 0 g0 g2).bind fun q5 => (some ((zi_w (f0 + 1)), q5.1, q5.2))
theorem zd156_0 : decode zxm156.2.1 0 = .ok (.aload_n 0, 1) := by decide +kernel
theorem zd156_1 : decode zxm156.2.1 1 = .ok (.dup, 1) := by decide +kernel
theorem zd156_2 : decode zxm156.2.1 2 = .ok (.getfield 34, 3) := by decide +kernel
theorem zd156_5 : decode zxm156.2.1 5 = .ok (.iconst 1, 1) := by decide +kernel
theorem zd156_6 : decode zxm156.2.1 6 = .ok (.iadd, 1) := by decide +kernel
theorem zd156_7 : decode zxm156.2.1 7 = .ok (.putfield 34, 3) := by decide +kernel
theorem zd156_10 : decode zxm156.2.1 10 = .ok (.iconst 0, 1) := by decide +kernel
theorem zd156_11 : decode zxm156.2.1 11 = .ok (.istore_n 1, 1) := by decide +kernel
theorem zd156_12 : decode zxm156.2.1 12 = .ok (.iload_n 1, 1) := by decide +kernel
theorem zd156_13 : decode zxm156.2.1 13 = .ok (.bipush 24, 2) := by decide +kernel
theorem zd156_15 : decode zxm156.2.1 15 = .ok (.if_icmp .ge 31, 3) := by decide +kernel
theorem zd156_18 : decode zxm156.2.1 18 = .ok (.aload_n 0, 1) := by decide +kernel
theorem zd156_19 : decode zxm156.2.1 19 = .ok (.getfield 15, 3) := by decide +kernel
theorem zd156_22 : decode zxm156.2.1 22 = .ok (.iload_n 1, 1) := by decide +kernel
theorem zd156_23 : decode zxm156.2.1 23 = .ok (.aload_n 0, 1) := by decide +kernel
theorem zd156_24 : decode zxm156.2.1 24 = .ok (.iload_n 1, 1) := by decide +kernel
theorem zd156_25 : decode zxm156.2.1 25 = .ok (.invokevirtual 61, 3) := by decide +kernel
theorem zd156_28 : decode zxm156.2.1 28 = .ok (.iastore, 1) := by decide +kernel
theorem zd156_29 : decode zxm156.2.1 29 = .ok (.aload_n 0, 1) := by decide +kernel
theorem zd156_30 : decode zxm156.2.1 30 = .ok (.getfield 19, 3) := by decide +kernel
theorem zd156_33 : decode zxm156.2.1 33 = .ok (.iload_n 1, 1) := by decide +kernel
theorem zd156_34 : decode zxm156.2.1 34 = .ok (.aload_n 0, 1) := by decide +kernel
theorem zd156_35 : decode zxm156.2.1 35 = .ok (.iload_n 1, 1) := by decide +kernel
theorem zd156_36 : decode zxm156.2.1 36 = .ok (.invokevirtual 65, 3) := by decide +kernel
theorem zd156_39 : decode zxm156.2.1 39 = .ok (.iastore, 1) := by decide +kernel
theorem zd156_40 : decode zxm156.2.1 40 = .ok (.iinc 1 1, 3) := by decide +kernel
theorem zd156_43 : decode zxm156.2.1 43 = .ok (.goto (-31), 3) := by decide +kernel
theorem zd156_46 : decode zxm156.2.1 46 = .ok (.return_, 1) := by decide +kernel
theorem zt_Sky_beginNight {f0 : Int} {g0 : (Int → Int)} {g1 : (Int → Int)} {g2 : (Int → Int)} {g3 : (Int → Int)} {o : Int × (Int → Int) × (Int → Int)} (h : zf_Sky_beginNight f0 g0 g1 g2 g3 = some o) : zv_Fn z_TB z_cl z_KX zy_Sky_beginNight zxm156 (2, 120) [.inr 0] [.inl f0] [g0, g1, g2, g3] none [.inl o.1] [o.2.1, g1, o.2.2, g3] := zv_meth (K := (z_KF8, z_KC8, z_KL8, z_KT8, [], [], [], none)) (FT := z_FT) (MT := z_MT) (n := 1) zxp156 (z_ks8 _ (fun _ h => List.mem_cons_of_mem _ h) _ _ _ _ (fun j r h _ => by cases h)) (fun _ _ => zs_KX_p) zyw_Sky_beginNight (fun va F G h => by obtain ⟨rfl, _⟩ := h; rfl) (fun va F G h => by obtain ⟨rfl, _⟩ := h; rfl) rfl fun good va F G hB hret hvret hP => by
  obtain ⟨rfl, rfl, rfl⟩ := hP
  have l0 : ∀ (n : Nat) (x1 : Int) (f0 : Int) (g0 : (Int → Int)) (g2 : (Int → Int)) (q : (Int → Int) × (Int → Int)), zf_Sky_beginNight_l0 g1 g3 n x1 g0 g2 = some q → (good 46 [.inr 1000, .inr 1000] [] [.inl f0] [q.1, g1, q.2, g3]) → good 12 [.inr 0, .inl x1] [] [.inl f0] [g0, g1, g2, g3] := by
    intro n
    induction n with
    | zero => intro x1 f0 g0 g2 q h; exact absurd (show none = some q from h) (fun h => by cases h)
    | succ n ih =>
      intro x1 f0 g0 g2 q h hK
      replace h : zf_Sky_beginNight_l0_b g1 g3 (zf_Sky_beginNight_l0 g1 g3 n) x1 g0 g2 = some q := h
      unfold zf_Sky_beginNight_l0_b at h
      refine zv_ild hB zd156_12 rfl rfl ?_
      refine zv_con hB zd156_13 rfl ?_
      refine zv_cge hB zd156_15 rfl (fun hc1 => ?_) (fun hc1 => ?_)
      · rw [if_neg (Int.not_lt.mpr hc1)] at h
        have hq := Option.some.inj h
        subst hq
        refine zv_wk hB (L' := [.inr 1000, .inr 1000]) (F' := [.inl f0]) ⟨fun (h : zv_is (.inr 1000)) => (Nat.lt_irrefl 1000 h).elim, fun (h : zv_is (.inr 1000)) => (Nat.lt_irrefl 1000 h).elim, trivial⟩ ⟨fun _ => rfl, trivial⟩ ?_
        exact hK
      · rw [if_pos hc1] at h
        refine zv_ald hB zd156_18 rfl rfl rfl ?_
        refine zv_getr hB zd156_19 rfl ?_
        refine zv_ild hB zd156_22 rfl rfl ?_
        refine zv_ald hB zd156_23 rfl rfl rfl ?_
        refine zv_ild hB zd156_24 rfl rfl ?_
        obtain ⟨r2, hr2, h⟩ := zi_bind h
        refine zv_cv hB (zv_emq (va2 := [.inr 0, .inl x1]) (F := [.inl f0]) (F' := [.inl f0]) (G := [g0, g1, g2, g3]) (G' := [g0, g1, g2, g3]) (ρ := [0, 1, 2]) (φ := []) (ψ := [0, 1]) [none] [some 0, some 1, none, none] zyw_Sky_columnNextNight zyw_Sky_beginNight zye_Sky_beginNight (by decide +kernel) (zt_Sky_columnNextNight hr2) trivial ⟨rfl, rfl, trivial⟩ rfl rfl rfl rfl rfl rfl rfl) zd156_25 zxt157 rfl (by decide) (by decide) rfl ?_
        obtain ⟨c3, h⟩ := zi_if h
        refine zv_iast hB zd156_28 rfl rfl (zi_ix_ok c3).1 (zi_ix_ok c3).2 ?_
        refine zv_ald hB zd156_29 rfl rfl rfl ?_
        refine zv_getr hB zd156_30 rfl ?_
        refine zv_ild hB zd156_33 rfl rfl ?_
        refine zv_ald hB zd156_34 rfl rfl rfl ?_
        refine zv_ild hB zd156_35 rfl rfl ?_
        obtain ⟨r4, hr4, h⟩ := zi_bind h
        refine zv_cv hB (zv_emq (va2 := [.inr 0, .inl x1]) (F := [.inl f0]) (F' := [.inl f0]) (G := [(zv_up g0 x1 r2), g1, g2, g3]) (G' := [(zv_up g0 x1 r2), g1, g2, g3]) (ρ := [0, 3, 4]) (φ := []) (ψ := [2, 3]) [none] [none, none, some 0, some 1] zyw_Sky_rowNextNight zyw_Sky_beginNight zye_Sky_beginNight (by decide +kernel) (zt_Sky_rowNextNight hr4) trivial ⟨rfl, rfl, trivial⟩ rfl rfl rfl rfl rfl rfl rfl) zd156_36 zxt158 rfl (by decide) (by decide) rfl ?_
        refine zv_iast hB zd156_39 rfl rfl (zi_ix_ok c3).1 (zi_ix_ok c3).2 ?_
        refine zv_iincw hB zd156_40 rfl rfl ?_
        refine zv_goto hB zd156_43 rfl ?_
        exact ih _ _ _ _ q h hK
  unfold zf_Sky_beginNight at h
  refine zv_ald hB zd156_0 rfl rfl rfl ?_
  refine zv_dup hB zd156_1 rfl ?_
  refine zv_getf hB zd156_2 rfl rfl (fun _ _ => ?_)
  refine zv_con hB zd156_5 rfl ?_
  refine zv_addw hB zd156_6 ?_
  refine zv_putf hB zd156_7 rfl rfl (fun h => by cases h) rfl ?_
  refine zv_con hB zd156_10 rfl ?_
  refine zv_ist hB zd156_11 rfl rfl rfl ?_
  obtain ⟨q5, hq5, h⟩ := zi_bind h
  refine l0 _ _ _ _ _ q5 hq5 ?_
  show good 46 [.inr 1000, .inr 1000] [] [.inl (zi_w (f0 + 1))] [q5.1, g1, q5.2, g3]
  have hw := Option.some.inj h
  subst hw
  exact hvret _ _ _ _ zd156_46 trivial ⟨rfl, rfl, rfl⟩
/-! Sky_passHour ()V -/
-- names: 0 Sky('arg', 0), 1 (0, 24)(0, 1, 1), 2 (0, 24)(0, 1, 4), 3 (0, 24)(0, 1, 2), 4 (0, 24)(0, 1, 5)
-- fields: f0 = 0.hour_, f1 = 0.night_; arrays: g0 = 1, g1 = 2, g2 = 3, g3 = 4; out: [('f', 0), ('f', 1), ('g', 0), ('g', 2)]
abbrev zy_Sky_passHour : zNL := (5, [(0, 1)], [(0, 1, 6, 0), (0, 1, 7, 1)], [(0, 1, 1, 1), (0, 1, 4, 2), (0, 1, 2, 3), (0, 1, 5, 4)], [(1, 0, 24, 0), (2, 0, 24, 1), (3, 0, 24, 2), (4, 0, 24, 3)])
theorem zyw_Sky_passHour : zv_wf zy_Sky_passHour = true := by decide +kernel
theorem zye_Sky_passHour : zv_ek2 zy_Sky_passHour = true := by decide +kernel
def zf_Sky_passHour (f0 : Int) (f1 : Int) (g0 : (Int → Int)) (g1 : (Int → Int)) (g2 : (Int → Int)) (g3 : (Int → Int)) : Option (Int × Int × (Int → Int) × (Int → Int)) := if (zi_w (f0 + 1)) = 24 then ((zf_Sky_beginNight f1 g0 g1 g2 g3).bind fun r2 => (some (0, r2.1, r2.2.1, r2.2.2))) else (some ((zi_w (f0 + 1)), f1, g0, g2))
theorem zd155_0 : decode zxm155.2.1 0 = .ok (.aload_n 0, 1) := by decide +kernel
theorem zd155_1 : decode zxm155.2.1 1 = .ok (.dup, 1) := by decide +kernel
theorem zd155_2 : decode zxm155.2.1 2 = .ok (.getfield 31, 3) := by decide +kernel
theorem zd155_5 : decode zxm155.2.1 5 = .ok (.iconst 1, 1) := by decide +kernel
theorem zd155_6 : decode zxm155.2.1 6 = .ok (.iadd, 1) := by decide +kernel
theorem zd155_7 : decode zxm155.2.1 7 = .ok (.putfield 31, 3) := by decide +kernel
theorem zd155_10 : decode zxm155.2.1 10 = .ok (.aload_n 0, 1) := by decide +kernel
theorem zd155_11 : decode zxm155.2.1 11 = .ok (.getfield 31, 3) := by decide +kernel
theorem zd155_14 : decode zxm155.2.1 14 = .ok (.bipush 24, 2) := by decide +kernel
theorem zd155_16 : decode zxm155.2.1 16 = .ok (.if_icmp .ne 12, 3) := by decide +kernel
theorem zd155_19 : decode zxm155.2.1 19 = .ok (.aload_n 0, 1) := by decide +kernel
theorem zd155_20 : decode zxm155.2.1 20 = .ok (.iconst 0, 1) := by decide +kernel
theorem zd155_21 : decode zxm155.2.1 21 = .ok (.putfield 31, 3) := by decide +kernel
theorem zd155_24 : decode zxm155.2.1 24 = .ok (.aload_n 0, 1) := by decide +kernel
theorem zd155_25 : decode zxm155.2.1 25 = .ok (.invokevirtual 68, 3) := by decide +kernel
theorem zd155_28 : decode zxm155.2.1 28 = .ok (.return_, 1) := by decide +kernel
theorem zt_Sky_passHour {f0 : Int} {f1 : Int} {g0 : (Int → Int)} {g1 : (Int → Int)} {g2 : (Int → Int)} {g3 : (Int → Int)} {o : Int × Int × (Int → Int) × (Int → Int)} (h : zf_Sky_passHour f0 f1 g0 g1 g2 g3 = some o) : zv_Fn z_TB z_cl z_KX zy_Sky_passHour zxm155 (3, 180) [.inr 0] [.inl f0, .inl f1] [g0, g1, g2, g3] none [.inl o.1, .inl o.2.1] [o.2.2.1, g1, o.2.2.2, g3] := zv_meth (K := (z_KF8, z_KC8, z_KL8, z_KT8, [], [], [], none)) (FT := z_FT) (MT := z_MT) (n := 1) zxp155 (z_ks8 _ (fun _ h => List.mem_cons_of_mem _ h) _ _ _ _ (fun j r h _ => by cases h)) (fun _ _ => zs_KX_p) zyw_Sky_passHour (fun va F G h => by obtain ⟨rfl, _⟩ := h; rfl) (fun va F G h => by obtain ⟨rfl, _⟩ := h; rfl) rfl fun good va F G hB hret hvret hP => by
  obtain ⟨rfl, rfl, rfl⟩ := hP
  unfold zf_Sky_passHour at h
  refine zv_ald hB zd155_0 rfl rfl rfl ?_
  refine zv_dup hB zd155_1 rfl ?_
  refine zv_getf hB zd155_2 rfl rfl (fun _ _ => ?_)
  refine zv_con hB zd155_5 rfl ?_
  refine zv_addw hB zd155_6 ?_
  refine zv_putf hB zd155_7 rfl rfl (fun h => by cases h) rfl ?_
  refine zv_ald hB zd155_10 rfl rfl rfl ?_
  refine zv_getf hB zd155_11 rfl rfl (fun _ _ => ?_)
  refine zv_con hB zd155_14 rfl ?_
  refine zv_cne hB zd155_16 rfl (fun hc1 => ?_) (fun hc1 => ?_)
  · rw [if_neg hc1] at h
    have hw := Option.some.inj h
    subst hw
    exact hvret _ _ _ _ zd155_28 trivial ⟨rfl, rfl, rfl⟩
  · rw [if_pos hc1] at h
    refine zv_ald hB zd155_19 rfl rfl rfl ?_
    refine zv_con hB zd155_20 rfl ?_
    refine zv_putf hB zd155_21 rfl rfl (fun h => by cases h) rfl ?_
    refine zv_ald hB zd155_24 rfl rfl rfl ?_
    obtain ⟨r2, hr2, h⟩ := zi_bind h
    refine zv_cv hB (zv_emq (va2 := [.inr 0]) (F := [.inl 0, .inl f1]) (F' := [.inl 0, .inl r2.1]) (G := [g0, g1, g2, g3]) (G' := [r2.2.1, g1, r2.2.2, g3]) (ρ := [0, 1, 2, 3, 4]) (φ := [1]) (ψ := [0, 1, 2, 3]) [none, some 0] [some 0, some 1, some 2, some 3] zyw_Sky_beginNight zyw_Sky_passHour zye_Sky_passHour (by decide +kernel) (zt_Sky_beginNight hr2) ⟨⟨_, rfl, fun _ => rfl⟩, trivial⟩ ⟨rfl, rfl, rfl, rfl, trivial⟩ rfl rfl rfl rfl rfl rfl rfl) zd155_25 zxt156 rfl (by decide) (by decide) rfl ?_
    have hw := Option.some.inj h
    subst hw
    exact hvret _ _ _ _ zd155_28 trivial ⟨rfl, rfl, rfl⟩
end
section
/-! Methods as functions, and that they do what these do. -/
/-! Sky_drawClouds (LStarTales$Law;)V -/
-- names: 0 Sky('arg', 0), 1 Law('arg', 1), 2 (0, 13)(1, 4, 12), 3 (0, 14)(1, 4, 3), 4 (0, 14)(1, 4, 5), 5 (0, 14)(1, 4, 6), 6 (0, 200)(1, 4, 0), 7 (0, 40)(1, 4, 13), 8 (0, 200)(1, 4, 1), 9 (0, 14)(1, 4, 4)
-- fields: f0 = 0.hour_, f1 = 0.night_, f2 = 0.chance_, f3 = 1.clauses_, f4 = 1.answer_, f5 = 0.clouds_; arrays: g0 = 2, g1 = 3, g2 = 4, g3 = 5, g4 = 6, g5 = 7, g6 = 8, g7 = 9; out: [('f', 2), ('f', 4), ('f', 5), ('g', 0), ('g', 5)]
abbrev zy_Sky_drawClouds : zNL := (10, [(0, 1), (1, 4)], [(0, 1, 6, 0), (0, 1, 7, 1), (0, 1, 11, 2), (1, 4, 7, 3), (1, 4, 14, 4), (0, 1, 8, 5)], [(1, 4, 12, 2), (1, 4, 3, 3), (1, 4, 5, 4), (1, 4, 6, 5), (1, 4, 0, 6), (1, 4, 13, 7), (1, 4, 1, 8), (1, 4, 4, 9)], [(2, 0, 13, 0), (3, 0, 14, 1), (4, 0, 14, 2), (5, 0, 14, 3), (6, 0, 200, 4), (7, 0, 40, 5), (8, 0, 200, 6), (9, 0, 14, 7)])
theorem zyw_Sky_drawClouds : zv_wf zy_Sky_drawClouds = true := by decide +kernel
theorem zye_Sky_drawClouds : zv_ek2 zy_Sky_drawClouds = true := by decide +kernel
def zf_Sky_drawClouds_l0_b (f3 : Int) (g1 : (Int → Int)) (g2 : (Int → Int)) (g3 : (Int → Int)) (g4 : (Int → Int)) (g6 : (Int → Int)) (g7 : (Int → Int)) (rec : Int → Int → Int → Int → (Int → Int) → (Int → Int) → Option (Int × Int × Int × (Int → Int) × (Int → Int))) (x2 : Int) (x3 : Int) (f2 : Int) (f4 : Int) (g0 : (Int → Int)) (g5 : (Int → Int)) : Option (Int × Int × Int × (Int → Int) × (Int → Int)) := if x3 < 24 then ((zf_Law_amount 113 10 f3 f4 g1 g2 g3 g4 g5 g6 (zv_up g0 5 x3) g7).bind fun r4 => (if (zi_rem (zi_rem (zi_w ((zi_w (25173 * f2)) + 13849)) 65536) 10) < r4.1 then (rec (zi_or x2 (zi_shl 1 x3)) (zi_w (x3 + 1)) (zi_rem (zi_w ((zi_w (25173 * f2)) + 13849)) 65536) r4.2.1 (zv_up g0 5 x3) r4.2.2) else (rec x2 (zi_w (x3 + 1)) (zi_rem (zi_w ((zi_w (25173 * f2)) + 13849)) 65536) r4.2.1 (zv_up g0 5 x3) r4.2.2))) else (some (x2, f2, f4, g0, g5))
def zf_Sky_drawClouds_l0 (f3 : Int) (g1 : (Int → Int)) (g2 : (Int → Int)) (g3 : (Int → Int)) (g4 : (Int → Int)) (g6 : (Int → Int)) (g7 : (Int → Int)) : Nat → Int → Int → Int → Int → (Int → Int) → (Int → Int) → Option (Int × Int × Int × (Int → Int) × (Int → Int))
  | 0, _, _, _, _, _, _ => none
  | n + 1, x2, x3, f2, f4, g0, g5 => zf_Sky_drawClouds_l0_b f3 g1 g2 g3 g4 g6 g7 (zf_Sky_drawClouds_l0 f3 g1 g2 g3 g4 g6 g7 n) x2 x3 f2 f4 g0 g5
def zf_Sky_drawClouds (f0 : Int) (f1 : Int) (f2 : Int) (f3 : Int) (f4 : Int) (f5 : Int) (g0 : (Int → Int)) (g1 : (Int → Int)) (g2 : (Int → Int)) (g3 : (Int → Int)) (g4 : (Int → Int)) (g5 : (Int → Int)) (g6 : (Int → Int)) (g7 : (Int → Int)) : Option (Int × Int × Int × (Int → Int) × (Int → Int)) := (zf_Law_forgetLetters g0).bind fun r1 => ((zf_Law_setTime f0 f1 r1).bind fun r2 => ((zf_Sky_drawClouds_l0 f3 g1 g2 g3 g4 g6 g7 zi_fu 0 0 f2 f4 r2 g5).bind fun q6 => (some (q6.2.1, q6.2.2.1, q6.1, q6.2.2.2.1, q6.2.2.2.2))))
theorem zd152_0 : decode zxm152.2.1 0 = .ok (.aload_n 1, 1) := by decide +kernel
theorem zd152_1 : decode zxm152.2.1 1 = .ok (.invokevirtual 71, 3) := by decide +kernel
theorem zd152_4 : decode zxm152.2.1 4 = .ok (.aload_n 1, 1) := by decide +kernel
theorem zd152_5 : decode zxm152.2.1 5 = .ok (.aload_n 0, 1) := by decide +kernel
theorem zd152_6 : decode zxm152.2.1 6 = .ok (.invokevirtual 76, 3) := by decide +kernel
theorem zd152_9 : decode zxm152.2.1 9 = .ok (.iconst 0, 1) := by decide +kernel
theorem zd152_10 : decode zxm152.2.1 10 = .ok (.istore_n 2, 1) := by decide +kernel
theorem zd152_11 : decode zxm152.2.1 11 = .ok (.iconst 0, 1) := by decide +kernel
theorem zd152_12 : decode zxm152.2.1 12 = .ok (.istore_n 3, 1) := by decide +kernel
theorem zd152_13 : decode zxm152.2.1 13 = .ok (.iload_n 3, 1) := by decide +kernel
theorem zd152_14 : decode zxm152.2.1 14 = .ok (.bipush 24, 2) := by decide +kernel
theorem zd152_16 : decode zxm152.2.1 16 = .ok (.if_icmp .ge 59, 3) := by decide +kernel
theorem zd152_19 : decode zxm152.2.1 19 = .ok (.aload_n 0, 1) := by decide +kernel
theorem zd152_20 : decode zxm152.2.1 20 = .ok (.sipush 25173, 3) := by decide +kernel
theorem zd152_23 : decode zxm152.2.1 23 = .ok (.aload_n 0, 1) := by decide +kernel
theorem zd152_24 : decode zxm152.2.1 24 = .ok (.getfield 46, 3) := by decide +kernel
theorem zd152_27 : decode zxm152.2.1 27 = .ok (.imul, 1) := by decide +kernel
theorem zd152_28 : decode zxm152.2.1 28 = .ok (.sipush 13849, 3) := by decide +kernel
theorem zd152_31 : decode zxm152.2.1 31 = .ok (.iadd, 1) := by decide +kernel
theorem zd152_32 : decode zxm152.2.1 32 = .ok (.ldc 80, 2) := by decide +kernel
theorem zd152_34 : decode zxm152.2.1 34 = .ok (.irem, 1) := by decide +kernel
theorem zd152_35 : decode zxm152.2.1 35 = .ok (.putfield 46, 3) := by decide +kernel
theorem zd152_38 : decode zxm152.2.1 38 = .ok (.aload_n 1, 1) := by decide +kernel
theorem zd152_39 : decode zxm152.2.1 39 = .ok (.getfield 81, 3) := by decide +kernel
theorem zd152_42 : decode zxm152.2.1 42 = .ok (.iconst 5, 1) := by decide +kernel
theorem zd152_43 : decode zxm152.2.1 43 = .ok (.iload_n 3, 1) := by decide +kernel
theorem zd152_44 : decode zxm152.2.1 44 = .ok (.iastore, 1) := by decide +kernel
theorem zd152_45 : decode zxm152.2.1 45 = .ok (.aload_n 0, 1) := by decide +kernel
theorem zd152_46 : decode zxm152.2.1 46 = .ok (.getfield 46, 3) := by decide +kernel
theorem zd152_49 : decode zxm152.2.1 49 = .ok (.bipush 10, 2) := by decide +kernel
theorem zd152_51 : decode zxm152.2.1 51 = .ok (.irem, 1) := by decide +kernel
theorem zd152_52 : decode zxm152.2.1 52 = .ok (.aload_n 1, 1) := by decide +kernel
theorem zd152_53 : decode zxm152.2.1 53 = .ok (.bipush 113, 2) := by decide +kernel
theorem zd152_55 : decode zxm152.2.1 55 = .ok (.bipush 10, 2) := by decide +kernel
theorem zd152_57 : decode zxm152.2.1 57 = .ok (.invokevirtual 84, 3) := by decide +kernel
theorem zd152_60 : decode zxm152.2.1 60 = .ok (.if_icmp .ge 9, 3) := by decide +kernel
theorem zd152_63 : decode zxm152.2.1 63 = .ok (.iload_n 2, 1) := by decide +kernel
theorem zd152_64 : decode zxm152.2.1 64 = .ok (.iconst 1, 1) := by decide +kernel
theorem zd152_65 : decode zxm152.2.1 65 = .ok (.iload_n 3, 1) := by decide +kernel
theorem zd152_66 : decode zxm152.2.1 66 = .ok (.ishl, 1) := by decide +kernel
theorem zd152_67 : decode zxm152.2.1 67 = .ok (.ior, 1) := by decide +kernel
theorem zd152_68 : decode zxm152.2.1 68 = .ok (.istore_n 2, 1) := by decide +kernel
theorem zd152_69 : decode zxm152.2.1 69 = .ok (.iinc 3 1, 3) := by decide +kernel
theorem zd152_72 : decode zxm152.2.1 72 = .ok (.goto (-59), 3) := by decide +kernel
theorem zd152_75 : decode zxm152.2.1 75 = .ok (.aload_n 0, 1) := by decide +kernel
theorem zd152_76 : decode zxm152.2.1 76 = .ok (.iload_n 2, 1) := by decide +kernel
theorem zd152_77 : decode zxm152.2.1 77 = .ok (.putfield 37, 3) := by decide +kernel
theorem zd152_80 : decode zxm152.2.1 80 = .ok (.return_, 1) := by decide +kernel
theorem zt_Sky_drawClouds {f0 : Int} {f1 : Int} {f2 : Int} {f3 : Int} {f4 : Int} {f5 : Int} {g0 : (Int → Int)} {g1 : (Int → Int)} {g2 : (Int → Int)} {g3 : (Int → Int)} {g4 : (Int → Int)} {g5 : (Int → Int)} {g6 : (Int → Int)} {g7 : (Int → Int)} {o : Int × Int × Int × (Int → Int) × (Int → Int)} (h : zf_Sky_drawClouds f0 f1 f2 f3 f4 f5 g0 g1 g2 g3 g4 g5 g6 g7 = some o) : zv_Fn z_TB z_cl z_KX zy_Sky_drawClouds zxm152 (3, 180) [.inr 0, .inr 1] [.inl f0, .inl f1, .inl f2, .inl f3, .inl f4, .inl f5] [g0, g1, g2, g3, g4, g5, g6, g7] none [.inl f0, .inl f1, .inl o.1, .inl f3, .inl o.2.1, .inl o.2.2.1] [o.2.2.2.1, g1, g2, g3, g4, o.2.2.2.2, g6, g7] := zv_meth (K := (z_KF8, z_KC8, z_KL8, z_KT8, [], [], [], none)) (FT := z_FT) (MT := z_MT) (n := 2) zxp152 (z_ks8 _ (fun _ h => List.mem_cons_of_mem _ h) _ _ _ _ (fun j r h _ => by cases h)) (fun _ _ => zs_KX_p) zyw_Sky_drawClouds (fun va F G h => by obtain ⟨rfl, _⟩ := h; rfl) (fun va F G h => by obtain ⟨rfl, _⟩ := h; rfl) rfl fun good va F G hB hret hvret hP => by
  obtain ⟨rfl, rfl, rfl⟩ := hP
  have l0 : ∀ (n : Nat) (x2 : Int) (x3 : Int) (f2 : Int) (f4 : Int) (f5 : Int) (g0 : (Int → Int)) (g5 : (Int → Int)) (q : Int × Int × Int × (Int → Int) × (Int → Int)), zf_Sky_drawClouds_l0 f3 g1 g2 g3 g4 g6 g7 n x2 x3 f2 f4 g0 g5 = some q → (good 75 [.inr 0, .inr 1000, .inl q.1, .inr 1000] [] [.inl f0, .inl f1, .inl q.2.1, .inl f3, .inl q.2.2.1, .inl f5] [q.2.2.2.1, g1, g2, g3, g4, q.2.2.2.2, g6, g7]) → good 13 [.inr 0, .inr 1, .inl x2, .inl x3] [] [.inl f0, .inl f1, .inl f2, .inl f3, .inl f4, .inl f5] [g0, g1, g2, g3, g4, g5, g6, g7] := by
    intro n
    induction n with
    | zero => intro x2 x3 f2 f4 f5 g0 g5 q h; exact absurd (show none = some q from h) (fun h => by cases h)
    | succ n ih =>
      intro x2 x3 f2 f4 f5 g0 g5 q h hK
      replace h : zf_Sky_drawClouds_l0_b f3 g1 g2 g3 g4 g6 g7 (zf_Sky_drawClouds_l0 f3 g1 g2 g3 g4 g6 g7 n) x2 x3 f2 f4 g0 g5 = some q := h
      unfold zf_Sky_drawClouds_l0_b at h
      refine zv_ild hB zd152_13 rfl rfl ?_
      refine zv_con hB zd152_14 rfl ?_
      refine zv_cge hB zd152_16 rfl (fun hc3 => ?_) (fun hc3 => ?_)
      · rw [if_neg (Int.not_lt.mpr hc3)] at h
        have hq := Option.some.inj h
        subst hq
        refine zv_wk hB (L' := [.inr 0, .inr 1000, .inl x2, .inr 1000]) (F' := [.inl f0, .inl f1, .inl f2, .inl f3, .inl f4, .inl f5]) ⟨fun _ => rfl, fun (h : zv_is (.inr 1000)) => (Nat.lt_irrefl 1000 h).elim, fun _ => rfl, fun (h : zv_is (.inr 1000)) => (Nat.lt_irrefl 1000 h).elim, trivial⟩ ⟨fun _ => rfl, fun _ => rfl, fun _ => rfl, fun _ => rfl, fun _ => rfl, fun _ => rfl, trivial⟩ ?_
        exact hK
      · rw [if_pos hc3] at h
        refine zv_ald hB zd152_19 rfl rfl rfl ?_
        refine zv_con hB zd152_20 rfl ?_
        refine zv_ald hB zd152_23 rfl rfl rfl ?_
        refine zv_getf hB zd152_24 rfl rfl (fun _ _ => ?_)
        refine zv_mulw hB zd152_27 ?_
        refine zv_con hB zd152_28 rfl ?_
        refine zv_addw hB zd152_31 ?_
        refine zv_con (n := 65536) hB zd152_32 (by decide +kernel) ?_
        refine zv_remw hB zd152_34 (by decide) ?_
        refine zv_putf hB zd152_35 rfl rfl (fun h => by cases h) rfl ?_
        refine zv_ald hB zd152_38 rfl rfl rfl ?_
        refine zv_getr hB zd152_39 rfl ?_
        refine zv_con hB zd152_42 rfl ?_
        refine zv_ild hB zd152_43 rfl rfl ?_
        refine zv_iast hB zd152_44 rfl rfl (by decide) (by decide) ?_
        refine zv_ald hB zd152_45 rfl rfl rfl ?_
        refine zv_getf hB zd152_46 rfl rfl (fun _ _ => ?_)
        refine zv_con hB zd152_49 rfl ?_
        refine zv_remw hB zd152_51 (by decide) ?_
        refine zv_ald hB zd152_52 rfl rfl rfl ?_
        refine zv_con hB zd152_53 rfl ?_
        refine zv_con hB zd152_55 rfl ?_
        obtain ⟨r4, hr4, h⟩ := zi_bind h
        refine zv_cv hB (zv_emq (va2 := [.inr 1, .inl 113, .inl 10]) (F := [.inl f0, .inl f1, .inl (zi_rem (zi_w ((zi_w (25173 * f2)) + 13849)) 65536), .inl f3, .inl f4, .inl f5]) (F' := [.inl f0, .inl f1, .inl (zi_rem (zi_w ((zi_w (25173 * f2)) + 13849)) 65536), .inl f3, .inl r4.2.1, .inl f5]) (G := [(zv_up g0 5 x3), g1, g2, g3, g4, g5, g6, g7]) (G' := [(zv_up g0 5 x3), g1, g2, g3, g4, r4.2.2, g6, g7]) (ρ := [1, 3, 4, 5, 6, 7, 8, 2, 9]) (φ := [3, 4]) (ψ := [1, 2, 3, 4, 5, 6, 0, 7]) [none, none, none, some 0, some 1, none] [some 6, some 0, some 1, some 2, some 3, some 4, some 5, some 7] zyw_Law_amount zyw_Sky_drawClouds zye_Sky_drawClouds (by decide +kernel) (zt_Law_amount hr4) ⟨⟨_, rfl, fun _ => rfl⟩, ⟨_, rfl, fun _ => rfl⟩, trivial⟩ ⟨rfl, rfl, rfl, rfl, rfl, rfl, rfl, rfl, trivial⟩ rfl rfl rfl rfl rfl rfl rfl) zd152_57 zxt146 rfl (by decide) (by decide) rfl ?_
        refine zv_cge hB zd152_60 rfl (fun hc5 => ?_) (fun hc5 => ?_)
        · rw [if_neg (Int.not_lt.mpr hc5)] at h
          refine zv_iincw hB zd152_69 rfl rfl ?_
          refine zv_goto hB zd152_72 rfl ?_
          exact ih _ _ _ _ _ _ _ q h hK
        · rw [if_pos hc5] at h
          refine zv_ild hB zd152_63 rfl rfl ?_
          refine zv_con hB zd152_64 rfl ?_
          refine zv_ild hB zd152_65 rfl rfl ?_
          refine zv_shlw hB zd152_66 ?_
          refine zv_orw hB zd152_67 ?_
          refine zv_ist hB zd152_68 rfl rfl rfl ?_
          refine zv_iincw hB zd152_69 rfl rfl ?_
          refine zv_goto hB zd152_72 rfl ?_
          exact ih _ _ _ _ _ _ _ q h hK
  unfold zf_Sky_drawClouds at h
  refine zv_ald hB zd152_0 rfl rfl rfl ?_
  obtain ⟨r1, hr1, h⟩ := zi_bind h
  refine zv_cv hB (zv_emq (va2 := [.inr 1]) (F := [.inl f0, .inl f1, .inl f2, .inl f3, .inl f4, .inl f5]) (F' := [.inl f0, .inl f1, .inl f2, .inl f3, .inl f4, .inl f5]) (G := [g0, g1, g2, g3, g4, g5, g6, g7]) (G' := [r1, g1, g2, g3, g4, g5, g6, g7]) (ρ := [1, 2]) (φ := []) (ψ := [0]) [none, none, none, none, none, none] [some 0, none, none, none, none, none, none, none] zyw_Law_forgetLetters zyw_Sky_drawClouds zye_Sky_drawClouds (by decide +kernel) (zt_Law_forgetLetters hr1) trivial ⟨rfl, trivial⟩ rfl rfl rfl rfl rfl rfl rfl) zd152_1 zxt87 rfl (by decide) (by decide) rfl ?_
  refine zv_ald hB zd152_4 rfl rfl rfl ?_
  refine zv_ald hB zd152_5 rfl rfl rfl ?_
  obtain ⟨r2, hr2, h⟩ := zi_bind h
  refine zv_cv hB (zv_emq (va2 := [.inr 1, .inr 0]) (F := [.inl f0, .inl f1, .inl f2, .inl f3, .inl f4, .inl f5]) (F' := [.inl f0, .inl f1, .inl f2, .inl f3, .inl f4, .inl f5]) (G := [r1, g1, g2, g3, g4, g5, g6, g7]) (G' := [r2, g1, g2, g3, g4, g5, g6, g7]) (ρ := [1, 0, 2]) (φ := [0, 1]) (ψ := [0]) [some 0, some 1, none, none, none, none] [some 0, none, none, none, none, none, none, none] zyw_Law_setTime zyw_Sky_drawClouds zye_Sky_drawClouds (by decide +kernel) (zt_Law_setTime hr2) ⟨⟨_, rfl, fun _ => rfl⟩, ⟨_, rfl, fun _ => rfl⟩, trivial⟩ ⟨rfl, trivial⟩ rfl rfl rfl rfl rfl rfl rfl) zd152_6 zxt88 rfl (by decide) (by decide) rfl ?_
  refine zv_con hB zd152_9 rfl ?_
  refine zv_ist hB zd152_10 rfl rfl rfl ?_
  refine zv_con hB zd152_11 rfl ?_
  refine zv_ist hB zd152_12 rfl rfl rfl ?_
  obtain ⟨q6, hq6, h⟩ := zi_bind h
  refine l0 _ _ _ _ _ _ _ _ q6 hq6 ?_
  show good 75 [.inr 0, .inr 1000, .inl q6.1, .inr 1000] [] [.inl f0, .inl f1, .inl q6.2.1, .inl f3, .inl q6.2.2.1, .inl f5] [q6.2.2.2.1, g1, g2, g3, g4, q6.2.2.2.2, g6, g7]
  refine zv_ald hB zd152_75 rfl rfl rfl ?_
  refine zv_ild hB zd152_76 rfl rfl ?_
  refine zv_putf hB zd152_77 rfl rfl (fun h => by cases h) rfl ?_
  have hw := Option.some.inj h
  subst hw
  exact hvret _ _ _ _ zd152_80 trivial ⟨rfl, rfl, rfl⟩
/-! X_steered (IIIZ)I -/
-- names: 0 StarTales('arg', 0), 1 Sea(0, 0, 3), 2 Sky(0, 0, 0), 3 (0, 6)(1, 2, 2), 4 View(0, 0, 12), 5 Law(0, 0, 7), 6 (0, 24)(4, 7, 8), 7 Pilot(0, 0, 15), 8 (0, 13)(5, 4, 12), 9 (0, 24)(2, 1, 1), 10 (0, 24)(2, 1, 2), 11 (0, 24)(2, 1, 3), 12 (0, 14)(5, 4, 3), 13 (0, 14)(5, 4, 5), 14 (0, 14)(5, 4, 6), 15 (0, 200)(5, 4, 0), 16 (0, 40)(5, 4, 13), 17 (0, 200)(5, 4, 1), 18 (0, 12)(1, 2, 0), 19 (0, 24)(2, 1, 4), 20 (0, 24)(2, 1, 5), 21 (0, 14)(5, 4, 4)
-- fields: f0 = 1.shipsTold_, f1 = 2.told_, f2 = 0.ruling_, f3 = 4.sky_, f4 = 4.law_, f5 = 4.starsAsked_, f6 = 4.x_, f7 = 4.y_, f8 = 2.hour_, f9 = 2.night_, f10 = 2.sightColumns_, f11 = 2.sightRows_, f12 = 2.clouds_, f13 = 5.tellsSeen_, f14 = 4.starsHold_, f15 = 5.clauses_, f16 = 5.answer_, f17 = 5.seenByPlace_, f18 = 2.chance_; arrays: g0 = 3, g1 = 6, g2 = 8, g3 = 9, g4 = 10, g5 = 11, g6 = 12, g7 = 13, g8 = 14, g9 = 15, g10 = 16, g11 = 17, g12 = 18, g13 = 19, g14 = 20, g15 = 21; out: [('ret', None), ('f', 5), ('f', 6), ('f', 7), ('f', 8), ('f', 9), ('f', 12), ('f', 14), ('f', 16), ('f', 18), ('g', 0), ('g', 1), ('g', 2), ('g', 3), ('g', 4), ('g', 10)]
abbrev zy_X_steered : zNL := (22, [(0, 0), (1, 2), (2, 1), (4, 7), (5, 4), (7, 9)], [(1, 2, 1, 0), (2, 1, 0, 1), (0, 0, 7, 2), (4, 7, 0, 3), (4, 7, 1, 4), (4, 7, 6, 5), (4, 7, 2, 6), (4, 7, 3, 7), (2, 1, 6, 8), (2, 1, 7, 9), (2, 1, 9, 10), (2, 1, 10, 11), (2, 1, 8, 12), (5, 4, 8, 13), (4, 7, 7, 14), (5, 4, 7, 15), (5, 4, 14, 16), (5, 4, 10, 17), (2, 1, 11, 18)], [(0, 0, 3, 1), (0, 0, 0, 2), (1, 2, 2, 3), (0, 0, 12, 4), (4, 7, 8, 6), (0, 0, 15, 7), (5, 4, 12, 8), (2, 1, 1, 9), (2, 1, 2, 10), (2, 1, 3, 11), (5, 4, 3, 12), (5, 4, 5, 13), (5, 4, 6, 14), (5, 4, 0, 15), (5, 4, 13, 16), (5, 4, 1, 17), (1, 2, 0, 18), (2, 1, 4, 19), (2, 1, 5, 20), (5, 4, 4, 21)], [(3, 0, 6, 0), (6, 0, 24, 1), (8, 0, 13, 2), (9, 0, 24, 3), (10, 0, 24, 4), (11, 0, 24, 5), (12, 0, 14, 6), (13, 0, 14, 7), (14, 0, 14, 8), (15, 0, 200, 9), (16, 0, 40, 10), (17, 0, 200, 11), (18, 0, 12, 12), (19, 0, 24, 13), (20, 0, 24, 14), (21, 0, 14, 15)])
theorem zyw_X_steered : zv_wf zy_X_steered = true := by decide +kernel
theorem zye_X_steered : zv_ek2 zy_X_steered = true := by decide +kernel
def zf_X_steered_l0_b (x2 : Int) (x3 : Int) (x4 : Int) (f1 : Int) (f10 : Int) (f11 : Int) (f13 : Int) (f15 : Int) (f17 : Int) (g5 : (Int → Int)) (g6 : (Int → Int)) (g7 : (Int → Int)) (g8 : (Int → Int)) (g9 : (Int → Int)) (g11 : (Int → Int)) (g12 : (Int → Int)) (g13 : (Int → Int)) (g14 : (Int → Int)) (g15 : (Int → Int)) (rec : Int → Int → Int → Int → Int → Int → Int → Int → Int → Int → Int → (Int → Int) → (Int → Int) → (Int → Int) → (Int → Int) → (Int → Int) → Option (Int × Int × Int × Int × Int × Int × Int × Int × Int × Int × (Int → Int) × (Int → Int) × (Int → Int) × (Int → Int) × (Int → Int))) (x5 : Int) (x6 : Int) (f5 : Int) (f6 : Int) (f7 : Int) (f8 : Int) (f9 : Int) (f12 : Int) (f14 : Int) (f16 : Int) (f18 : Int) (g1 : (Int → Int)) (g2 : (Int → Int)) (g3 : (Int → Int)) (g4 : (Int → Int)) (g10 : (Int → Int)) : Option (Int × Int × Int × Int × Int × Int × Int × Int × Int × Int × (Int → Int) × (Int → Int) × (Int → Int) × (Int → Int) × (Int → Int)) := if x6 < x3 then (if x4 = 0 then ((zf_View_open f5 g1).bind fun r10 => ((zf_Pilot_step x5 x2 f6 f7 f8 f9 f1 f10 f11 f12 f13 r10.1 f14 f15 f16 f17 g2 g3 g4 g5 g6 g7 g8 g9 g10 g11 g12).bind fun r11 => ((zf_Sky_passHour f8 f9 g3 g13 g4 g14).bind fun r12 => (rec r11.1 (zi_w (x6 + 1)) r11.2.2.2.1 r11.2.1 r11.2.2.1 r12.1 r12.2.1 f12 r11.2.2.2.2.1 r11.2.2.2.2.2.1 f18 r10.2 r11.2.2.2.2.2.2.1 r12.2.2.1 r12.2.2.2 r11.2.2.2.2.2.2.2)))) else ((zf_Sky_drawClouds f8 f9 f18 f15 f16 f12 g2 g6 g7 g8 g9 g10 g11 g15).bind fun r13 => ((zf_View_open f5 g1).bind fun r14 => ((zf_Pilot_step x5 x2 f6 f7 f8 f9 f1 f10 f11 r13.2.2.1 f13 r14.1 f14 f15 r13.2.1 f17 r13.2.2.2.1 g3 g4 g5 g6 g7 g8 g9 r13.2.2.2.2 g11 g12).bind fun r15 => ((zf_Sky_passHour f8 f9 g3 g13 g4 g14).bind fun r16 => (rec r15.1 (zi_w (x6 + 1)) r15.2.2.2.1 r15.2.1 r15.2.2.1 r16.1 r16.2.1 r13.2.2.1 r15.2.2.2.2.1 r15.2.2.2.2.2.1 r13.1 r14.2 r15.2.2.2.2.2.2.1 r16.2.2.1 r16.2.2.2 r15.2.2.2.2.2.2.2)))))) else (some (x5, f5, f6, f7, f8, f9, f12, f14, f16, f18, g1, g2, g3, g4, g10))
def zf_X_steered_l0 (x2 : Int) (x3 : Int) (x4 : Int) (f1 : Int) (f10 : Int) (f11 : Int) (f13 : Int) (f15 : Int) (f17 : Int) (g5 : (Int → Int)) (g6 : (Int → Int)) (g7 : (Int → Int)) (g8 : (Int → Int)) (g9 : (Int → Int)) (g11 : (Int → Int)) (g12 : (Int → Int)) (g13 : (Int → Int)) (g14 : (Int → Int)) (g15 : (Int → Int)) : Nat → Int → Int → Int → Int → Int → Int → Int → Int → Int → Int → Int → (Int → Int) → (Int → Int) → (Int → Int) → (Int → Int) → (Int → Int) → Option (Int × Int × Int × Int × Int × Int × Int × Int × Int × Int × (Int → Int) × (Int → Int) × (Int → Int) × (Int → Int) × (Int → Int))
  | 0, _, _, _, _, _, _, _, _, _, _, _, _, _, _, _, _ => none
  | n + 1, x5, x6, f5, f6, f7, f8, f9, f12, f14, f16, f18, g1, g2, g3, g4, g10 => zf_X_steered_l0_b x2 x3 x4 f1 f10 f11 f13 f15 f17 g5 g6 g7 g8 g9 g11 g12 g13 g14 g15 (zf_X_steered_l0 x2 x3 x4 f1 f10 f11 f13 f15 f17 g5 g6 g7 g8 g9 g11 g12 g13 g14 g15 n) x5 x6 f5 f6 f7 f8 f9 f12 f14 f16 f18 g1 g2 g3 g4 g10
def zf_X_steered (x1 : Int) (x2 : Int) (x3 : Int) (x4 : Int) (f0 : Int) (f1 : Int) (f5 : Int) (f6 : Int) (f7 : Int) (f8 : Int) (f9 : Int) (f10 : Int) (f11 : Int) (f12 : Int) (f13 : Int) (f14 : Int) (f15 : Int) (f16 : Int) (f17 : Int) (f18 : Int) (g0 : (Int → Int)) (g1 : (Int → Int)) (g2 : (Int → Int)) (g3 : (Int → Int)) (g4 : (Int → Int)) (g5 : (Int → Int)) (g6 : (Int → Int)) (g7 : (Int → Int)) (g8 : (Int → Int)) (g9 : (Int → Int)) (g10 : (Int → Int)) (g11 : (Int → Int)) (g12 : (Int → Int)) (g13 : (Int → Int)) (g14 : (Int → Int)) (g15 : (Int → Int)) : Option (Int × Int × Int × Int × Int × Int × Int × Int × Int × Int × (Int → Int) × (Int → Int) × (Int → Int) × (Int → Int) × (Int → Int) × (Int → Int)) := (zf_Sea_hasShip x1 f0).bind fun r1 => (if r1 = 0 then (some ((-1), f5, f6, f7, f8, f9, f12, f14, f16, f18, g0, g1, g2, g3, g4, g10)) else ((zf_Sky_hasStar x2 f1).bind fun r3 => (if r3 = 0 then (some ((-1), f5, f6, f7, f8, f9, f12, f14, f16, f18, g0, g1, g2, g3, g4, g10)) else ((zf_X_isWithin x3 1 48).bind fun r5 => (if r5 = 0 then (some ((-1), f5, f6, f7, f8, f9, f12, f14, f16, f18, g0, g1, g2, g3, g4, g10)) else (cond (zi_ix x1 6) ((zf_X_steered_l0 x2 x3 x4 f1 f10 f11 f13 f15 f17 g5 g6 g7 g8 g9 g11 g12 g13 g14 g15 zi_fu (g0 x1) 0 f5 f6 f7 f8 f9 f12 f14 f16 f18 g1 g2 g3 g4 g10).bind fun q17 => (some (q17.1, q17.2.1, q17.2.2.1, q17.2.2.2.1, q17.2.2.2.2.1, q17.2.2.2.2.2.1, q17.2.2.2.2.2.2.1, q17.2.2.2.2.2.2.2.1, q17.2.2.2.2.2.2.2.2.1, q17.2.2.2.2.2.2.2.2.2.1, (zv_up g0 x1 q17.1), q17.2.2.2.2.2.2.2.2.2.2.1, q17.2.2.2.2.2.2.2.2.2.2.2.1, q17.2.2.2.2.2.2.2.2.2.2.2.2.1, q17.2.2.2.2.2.2.2.2.2.2.2.2.2.1, q17.2.2.2.2.2.2.2.2.2.2.2.2.2.2))) none))))))
theorem zd151_0 : decode zxm151.2.1 0 = .ok (.aload_n 0, 1) := by decide +kernel
theorem zd151_1 : decode zxm151.2.1 1 = .ok (.getfield 25, 3) := by decide +kernel
theorem zd151_4 : decode zxm151.2.1 4 = .ok (.iload_n 1, 1) := by decide +kernel
theorem zd151_5 : decode zxm151.2.1 5 = .ok (.invokevirtual 323, 3) := by decide +kernel
theorem zd151_8 : decode zxm151.2.1 8 = .ok (.ifCond .eq 24, 3) := by decide +kernel
theorem zd151_11 : decode zxm151.2.1 11 = .ok (.aload_n 0, 1) := by decide +kernel
theorem zd151_12 : decode zxm151.2.1 12 = .ok (.getfield 10, 3) := by decide +kernel
theorem zd151_15 : decode zxm151.2.1 15 = .ok (.iload_n 2, 1) := by decide +kernel
theorem zd151_16 : decode zxm151.2.1 16 = .ok (.invokevirtual 153, 3) := by decide +kernel
theorem zd151_19 : decode zxm151.2.1 19 = .ok (.ifCond .eq 13, 3) := by decide +kernel
theorem zd151_22 : decode zxm151.2.1 22 = .ok (.iload_n 3, 1) := by decide +kernel
theorem zd151_23 : decode zxm151.2.1 23 = .ok (.iconst 1, 1) := by decide +kernel
theorem zd151_24 : decode zxm151.2.1 24 = .ok (.bipush 48, 2) := by decide +kernel
theorem zd151_26 : decode zxm151.2.1 26 = .ok (.invokestatic 126, 3) := by decide +kernel
theorem zd151_29 : decode zxm151.2.1 29 = .ok (.ifCond .ne 5, 3) := by decide +kernel
theorem zd151_32 : decode zxm151.2.1 32 = .ok (.iconst (-1), 1) := by decide +kernel
theorem zd151_33 : decode zxm151.2.1 33 = .ok (.ireturn, 1) := by decide +kernel
theorem zd151_34 : decode zxm151.2.1 34 = .ok (.aload_n 0, 1) := by decide +kernel
theorem zd151_35 : decode zxm151.2.1 35 = .ok (.getfield 25, 3) := by decide +kernel
theorem zd151_38 : decode zxm151.2.1 38 = .ok (.getfield 187, 3) := by decide +kernel
theorem zd151_41 : decode zxm151.2.1 41 = .ok (.iload_n 1, 1) := by decide +kernel
theorem zd151_42 : decode zxm151.2.1 42 = .ok (.iaload, 1) := by decide +kernel
theorem zd151_43 : decode zxm151.2.1 43 = .ok (.istore 5, 2) := by decide +kernel
theorem zd151_45 : decode zxm151.2.1 45 = .ok (.iconst 0, 1) := by decide +kernel
theorem zd151_46 : decode zxm151.2.1 46 = .ok (.istore 6, 2) := by decide +kernel
theorem zd151_48 : decode zxm151.2.1 48 = .ok (.iload 6, 2) := by decide +kernel
theorem zd151_50 : decode zxm151.2.1 50 = .ok (.iload_n 3, 1) := by decide +kernel
theorem zd151_51 : decode zxm151.2.1 51 = .ok (.if_icmp .ge 67, 3) := by decide +kernel
theorem zd151_54 : decode zxm151.2.1 54 = .ok (.iload 4, 2) := by decide +kernel
theorem zd151_56 : decode zxm151.2.1 56 = .ok (.ifCond .eq 14, 3) := by decide +kernel
theorem zd151_59 : decode zxm151.2.1 59 = .ok (.aload_n 0, 1) := by decide +kernel
theorem zd151_60 : decode zxm151.2.1 60 = .ok (.getfield 10, 3) := by decide +kernel
theorem zd151_63 : decode zxm151.2.1 63 = .ok (.aload_n 0, 1) := by decide +kernel
theorem zd151_64 : decode zxm151.2.1 64 = .ok (.getfield 46, 3) := by decide +kernel
theorem zd151_67 : decode zxm151.2.1 67 = .ok (.invokevirtual 326, 3) := by decide +kernel
theorem zd151_70 : decode zxm151.2.1 70 = .ok (.aload_n 0, 1) := by decide +kernel
theorem zd151_71 : decode zxm151.2.1 71 = .ok (.getfield 81, 3) := by decide +kernel
theorem zd151_74 : decode zxm151.2.1 74 = .ok (.aload_n 0, 1) := by decide +kernel
theorem zd151_75 : decode zxm151.2.1 75 = .ok (.getfield 10, 3) := by decide +kernel
theorem zd151_78 : decode zxm151.2.1 78 = .ok (.aload_n 0, 1) := by decide +kernel
theorem zd151_79 : decode zxm151.2.1 79 = .ok (.getfield 46, 3) := by decide +kernel
theorem zd151_82 : decode zxm151.2.1 82 = .ok (.invokevirtual 211, 3) := by decide +kernel
theorem zd151_85 : decode zxm151.2.1 85 = .ok (.aload_n 0, 1) := by decide +kernel
theorem zd151_86 : decode zxm151.2.1 86 = .ok (.getfield 103, 3) := by decide +kernel
theorem zd151_89 : decode zxm151.2.1 89 = .ok (.aload_n 0, 1) := by decide +kernel
theorem zd151_90 : decode zxm151.2.1 90 = .ok (.getfield 81, 3) := by decide +kernel
theorem zd151_93 : decode zxm151.2.1 93 = .ok (.aload_n 0, 1) := by decide +kernel
theorem zd151_94 : decode zxm151.2.1 94 = .ok (.getfield 25, 3) := by decide +kernel
theorem zd151_97 : decode zxm151.2.1 97 = .ok (.iload 5, 2) := by decide +kernel
theorem zd151_99 : decode zxm151.2.1 99 = .ok (.iload_n 2, 1) := by decide +kernel
theorem zd151_100 : decode zxm151.2.1 100 = .ok (.invokevirtual 330, 3) := by decide +kernel
theorem zd151_103 : decode zxm151.2.1 103 = .ok (.istore 5, 2) := by decide +kernel
theorem zd151_105 : decode zxm151.2.1 105 = .ok (.aload_n 0, 1) := by decide +kernel
theorem zd151_106 : decode zxm151.2.1 106 = .ok (.getfield 10, 3) := by decide +kernel
theorem zd151_109 : decode zxm151.2.1 109 = .ok (.invokevirtual 334, 3) := by decide +kernel
theorem zd151_112 : decode zxm151.2.1 112 = .ok (.iinc 6 1, 3) := by decide +kernel
theorem zd151_115 : decode zxm151.2.1 115 = .ok (.goto (-67), 3) := by decide +kernel
theorem zd151_118 : decode zxm151.2.1 118 = .ok (.aload_n 0, 1) := by decide +kernel
theorem zd151_119 : decode zxm151.2.1 119 = .ok (.getfield 25, 3) := by decide +kernel
theorem zd151_122 : decode zxm151.2.1 122 = .ok (.getfield 187, 3) := by decide +kernel
theorem zd151_125 : decode zxm151.2.1 125 = .ok (.iload_n 1, 1) := by decide +kernel
theorem zd151_126 : decode zxm151.2.1 126 = .ok (.iload 5, 2) := by decide +kernel
theorem zd151_128 : decode zxm151.2.1 128 = .ok (.iastore, 1) := by decide +kernel
theorem zd151_129 : decode zxm151.2.1 129 = .ok (.iload 5, 2) := by decide +kernel
theorem zd151_131 : decode zxm151.2.1 131 = .ok (.ireturn, 1) := by decide +kernel
theorem zt_X_steered {x1 : Int} {x2 : Int} {x3 : Int} {x4 : Int} {f0 : Int} {f1 : Int} {f5 : Int} {f6 : Int} {f7 : Int} {f8 : Int} {f9 : Int} {f10 : Int} {f11 : Int} {f12 : Int} {f13 : Int} {f14 : Int} {f15 : Int} {f16 : Int} {f17 : Int} {f18 : Int} {g0 : (Int → Int)} {g1 : (Int → Int)} {g2 : (Int → Int)} {g3 : (Int → Int)} {g4 : (Int → Int)} {g5 : (Int → Int)} {g6 : (Int → Int)} {g7 : (Int → Int)} {g8 : (Int → Int)} {g9 : (Int → Int)} {g10 : (Int → Int)} {g11 : (Int → Int)} {g12 : (Int → Int)} {g13 : (Int → Int)} {g14 : (Int → Int)} {g15 : (Int → Int)} {o : Int × Int × Int × Int × Int × Int × Int × Int × Int × Int × (Int → Int) × (Int → Int) × (Int → Int) × (Int → Int) × (Int → Int) × (Int → Int)} (h : zf_X_steered x1 x2 x3 x4 f0 f1 f5 f6 f7 f8 f9 f10 f11 f12 f13 f14 f15 f16 f17 f18 g0 g1 g2 g3 g4 g5 g6 g7 g8 g9 g10 g11 g12 g13 g14 g15 = some o) : zv_Fn z_TB z_cl z_KX zy_X_steered zxm151 (5, 300) [.inr 0, .inl x1, .inl x2, .inl x3, .inl x4] [.inl f0, .inl f1, .inr 5, .inr 1000, .inr 1000, .inl f5, .inl f6, .inl f7, .inl f8, .inl f9, .inl f10, .inl f11, .inl f12, .inl f13, .inl f14, .inl f15, .inl f16, .inl f17, .inl f18] [g0, g1, g2, g3, g4, g5, g6, g7, g8, g9, g10, g11, g12, g13, g14, g15] (some o.1) [.inl f0, .inl f1, .inr 5, .inr 1000, .inr 1000, .inl o.2.1, .inl o.2.2.1, .inl o.2.2.2.1, .inl o.2.2.2.2.1, .inl o.2.2.2.2.2.1, .inl f10, .inl f11, .inl o.2.2.2.2.2.2.1, .inl f13, .inl o.2.2.2.2.2.2.2.1, .inl f15, .inl o.2.2.2.2.2.2.2.2.1, .inl f17, .inl o.2.2.2.2.2.2.2.2.2.1] [o.2.2.2.2.2.2.2.2.2.2.1, o.2.2.2.2.2.2.2.2.2.2.2.1, o.2.2.2.2.2.2.2.2.2.2.2.2.1, o.2.2.2.2.2.2.2.2.2.2.2.2.2.1, o.2.2.2.2.2.2.2.2.2.2.2.2.2.2.1, g5, g6, g7, g8, g9, o.2.2.2.2.2.2.2.2.2.2.2.2.2.2.2, g11, g12, g13, g14, g15] := zv_meth (K := (z_KF0, z_KC0, z_KL0, z_KT0, [], [], [], none)) (FT := z_FT) (MT := z_MT) (n := 5) zxp151 (z_ks0 _ (fun _ h => List.mem_cons_of_mem _ h) _ _ _ _ (fun j r h _ => by cases h)) (fun _ _ => zs_KX_p) zyw_X_steered (fun va F G h => by obtain ⟨rfl, _⟩ := h; rfl) (fun va F G h => by obtain ⟨rfl, _⟩ := h; rfl) rfl fun good va F G hB hret hvret hP => by
  obtain ⟨rfl, rfl, rfl⟩ := hP
  have l0 : ∀ (n : Nat) (x1 : Int) (x2 : Int) (x3 : Int) (x4 : Int) (x5 : Int) (x6 : Int) (f5 : Int) (f6 : Int) (f7 : Int) (f8 : Int) (f9 : Int) (f12 : Int) (f14 : Int) (f16 : Int) (f18 : Int) (g0 : (Int → Int)) (g1 : (Int → Int)) (g2 : (Int → Int)) (g3 : (Int → Int)) (g4 : (Int → Int)) (g10 : (Int → Int)) (q : Int × Int × Int × Int × Int × Int × Int × Int × Int × Int × (Int → Int) × (Int → Int) × (Int → Int) × (Int → Int) × (Int → Int)), zf_X_steered_l0 x2 x3 x4 f1 f10 f11 f13 f15 f17 g5 g6 g7 g8 g9 g11 g12 g13 g14 g15 n x5 x6 f5 f6 f7 f8 f9 f12 f14 f16 f18 g1 g2 g3 g4 g10 = some q → (good 118 [.inr 0, .inl x1, .inr 1000, .inr 1000, .inr 1000, .inl q.1, .inr 1000] [] [.inl f0, .inl f1, .inr 5, .inr 1000, .inr 1000, .inl q.2.1, .inl q.2.2.1, .inl q.2.2.2.1, .inl q.2.2.2.2.1, .inl q.2.2.2.2.2.1, .inl f10, .inl f11, .inl q.2.2.2.2.2.2.1, .inl f13, .inl q.2.2.2.2.2.2.2.1, .inl f15, .inl q.2.2.2.2.2.2.2.2.1, .inl f17, .inl q.2.2.2.2.2.2.2.2.2.1] [g0, q.2.2.2.2.2.2.2.2.2.2.1, q.2.2.2.2.2.2.2.2.2.2.2.1, q.2.2.2.2.2.2.2.2.2.2.2.2.1, q.2.2.2.2.2.2.2.2.2.2.2.2.2.1, g5, g6, g7, g8, g9, q.2.2.2.2.2.2.2.2.2.2.2.2.2.2, g11, g12, g13, g14, g15]) → good 48 [.inr 0, .inl x1, .inl x2, .inl x3, .inl x4, .inl x5, .inl x6] [] [.inl f0, .inl f1, .inr 5, .inr 1000, .inr 1000, .inl f5, .inl f6, .inl f7, .inl f8, .inl f9, .inl f10, .inl f11, .inl f12, .inl f13, .inl f14, .inl f15, .inl f16, .inl f17, .inl f18] [g0, g1, g2, g3, g4, g5, g6, g7, g8, g9, g10, g11, g12, g13, g14, g15] := by
    intro n
    induction n with
    | zero => intro x1 x2 x3 x4 x5 x6 f5 f6 f7 f8 f9 f12 f14 f16 f18 g0 g1 g2 g3 g4 g10 q h; exact absurd (show none = some q from h) (fun h => by cases h)
    | succ n ih =>
      intro x1 x2 x3 x4 x5 x6 f5 f6 f7 f8 f9 f12 f14 f16 f18 g0 g1 g2 g3 g4 g10 q h hK
      replace h : zf_X_steered_l0_b x2 x3 x4 f1 f10 f11 f13 f15 f17 g5 g6 g7 g8 g9 g11 g12 g13 g14 g15 (zf_X_steered_l0 x2 x3 x4 f1 f10 f11 f13 f15 f17 g5 g6 g7 g8 g9 g11 g12 g13 g14 g15 n) x5 x6 f5 f6 f7 f8 f9 f12 f14 f16 f18 g1 g2 g3 g4 g10 = some q := h
      unfold zf_X_steered_l0_b at h
      refine zv_ild hB zd151_48 rfl rfl ?_
      refine zv_ild hB zd151_50 rfl rfl ?_
      refine zv_cge hB zd151_51 rfl (fun hc8 => ?_) (fun hc8 => ?_)
      · rw [if_neg (Int.not_lt.mpr hc8)] at h
        have hq := Option.some.inj h
        subst hq
        refine zv_wk hB (L' := [.inr 0, .inl x1, .inr 1000, .inr 1000, .inr 1000, .inl x5, .inr 1000]) (F' := [.inl f0, .inl f1, .inr 5, .inr 1000, .inr 1000, .inl f5, .inl f6, .inl f7, .inl f8, .inl f9, .inl f10, .inl f11, .inl f12, .inl f13, .inl f14, .inl f15, .inl f16, .inl f17, .inl f18]) ⟨fun _ => rfl, fun _ => rfl, fun (h : zv_is (.inr 1000)) => (Nat.lt_irrefl 1000 h).elim, fun (h : zv_is (.inr 1000)) => (Nat.lt_irrefl 1000 h).elim, fun (h : zv_is (.inr 1000)) => (Nat.lt_irrefl 1000 h).elim, fun _ => rfl, fun (h : zv_is (.inr 1000)) => (Nat.lt_irrefl 1000 h).elim, trivial⟩ ⟨fun _ => rfl, fun _ => rfl, fun _ => rfl, fun (h : zv_is (.inr 1000)) => (Nat.lt_irrefl 1000 h).elim, fun (h : zv_is (.inr 1000)) => (Nat.lt_irrefl 1000 h).elim, fun _ => rfl, fun _ => rfl, fun _ => rfl, fun _ => rfl, fun _ => rfl, fun _ => rfl, fun _ => rfl, fun _ => rfl, fun _ => rfl, fun _ => rfl, fun _ => rfl, fun _ => rfl, fun _ => rfl, fun _ => rfl, trivial⟩ ?_
        exact hK
      · rw [if_pos hc8] at h
        refine zv_ild hB zd151_54 rfl rfl ?_
        refine zv_zeq hB zd151_56 rfl (fun hc9 => ?_) (fun hc9 => ?_)
        · rw [if_pos hc9] at h
          refine zv_ald hB zd151_70 rfl rfl rfl ?_
          refine zv_getr hB zd151_71 rfl ?_
          refine zv_ald hB zd151_74 rfl rfl rfl ?_
          refine zv_getr hB zd151_75 rfl ?_
          refine zv_ald hB zd151_78 rfl rfl rfl ?_
          refine zv_getq hB zd151_79 rfl rfl rfl ?_
          obtain ⟨r10, hr10, h⟩ := zi_bind h
          refine zv_cv hB (zv_emq (va2 := [.inr 4, .inr 2, .inr 5]) (F := [.inl f0, .inl f1, .inr 5, .inr 1000, .inr 1000, .inl f5, .inl f6, .inl f7, .inl f8, .inl f9, .inl f10, .inl f11, .inl f12, .inl f13, .inl f14, .inl f15, .inl f16, .inl f17, .inl f18]) (F' := [.inl f0, .inl f1, .inr 5, .inr 2, .inr 5, .inl r10.1, .inl f6, .inl f7, .inl f8, .inl f9, .inl f10, .inl f11, .inl f12, .inl f13, .inl f14, .inl f15, .inl f16, .inl f17, .inl f18]) (G := [g0, g1, g2, g3, g4, g5, g6, g7, g8, g9, g10, g11, g12, g13, g14, g15]) (G' := [g0, r10.2, g2, g3, g4, g5, g6, g7, g8, g9, g10, g11, g12, g13, g14, g15]) (ρ := [4, 2, 5, 6]) (φ := [3, 4, 5]) (ψ := [1]) [none, none, none, some 0, some 1, some 2, none, none, none, none, none, none, none, none, none, none, none, none, none] [none, some 0, none, none, none, none, none, none, none, none, none, none, none, none, none, none] zyw_View_open zyw_X_steered zye_X_steered (by decide +kernel) (zt_View_open hr10) ⟨⟨_, rfl, fun (h : zv_is (.inr 1000)) => (Nat.lt_irrefl 1000 h).elim⟩, ⟨_, rfl, fun (h : zv_is (.inr 1000)) => (Nat.lt_irrefl 1000 h).elim⟩, ⟨_, rfl, fun _ => rfl⟩, trivial⟩ ⟨rfl, trivial⟩ rfl rfl rfl rfl rfl rfl rfl) zd151_82 zxt84 rfl (by decide) (by decide) rfl ?_
          refine zv_ald hB zd151_85 rfl rfl rfl ?_
          refine zv_getr hB zd151_86 rfl ?_
          refine zv_ald hB zd151_89 rfl rfl rfl ?_
          refine zv_getr hB zd151_90 rfl ?_
          refine zv_ald hB zd151_93 rfl rfl rfl ?_
          refine zv_getr hB zd151_94 rfl ?_
          refine zv_ild hB zd151_97 rfl rfl ?_
          refine zv_ild hB zd151_99 rfl rfl ?_
          obtain ⟨r11, hr11, h⟩ := zi_bind h
          refine zv_cv hB (zv_emq (va2 := [.inr 7, .inr 4, .inr 1, .inl x5, .inl x2]) (F := [.inl f0, .inl f1, .inr 5, .inr 2, .inr 5, .inl r10.1, .inl f6, .inl f7, .inl f8, .inl f9, .inl f10, .inl f11, .inl f12, .inl f13, .inl f14, .inl f15, .inl f16, .inl f17, .inl f18]) (F' := [.inl f0, .inl f1, .inr 5, .inr 2, .inr 5, .inl r11.2.2.2.1, .inl r11.2.1, .inl r11.2.2.1, .inl f8, .inl f9, .inl f10, .inl f11, .inl f12, .inl f13, .inl r11.2.2.2.2.1, .inl f15, .inl r11.2.2.2.2.2.1, .inl f17, .inl f18]) (G := [g0, r10.2, g2, g3, g4, g5, g6, g7, g8, g9, g10, g11, g12, g13, g14, g15]) (G' := [g0, r10.2, r11.2.2.2.2.2.2.1, g3, g4, g5, g6, g7, g8, g9, r11.2.2.2.2.2.2.2, g11, g12, g13, g14, g15]) (ρ := [7, 4, 1, 5, 8, 2, 9, 10, 11, 12, 13, 14, 15, 16, 17, 18]) (φ := [4, 3, 6, 7, 8, 9, 1, 10, 11, 12, 13, 5, 14, 15, 16, 17]) (ψ := [2, 3, 4, 5, 6, 7, 8, 9, 10, 11, 12]) [none, some 6, none, some 1, some 0, some 11, some 2, some 3, some 4, some 5, some 7, some 8, some 9, some 10, some 12, some 13, some 14, some 15, none] [none, none, some 0, some 1, some 2, some 3, some 4, some 5, some 6, some 7, some 8, some 9, some 10, none, none, none] zyw_Pilot_step zyw_X_steered zye_X_steered (by decide +kernel) (zt_Pilot_step hr11) ⟨⟨_, rfl, fun _ => rfl⟩, ⟨_, rfl, fun _ => rfl⟩, ⟨_, rfl, fun _ => rfl⟩, ⟨_, rfl, fun _ => rfl⟩, ⟨_, rfl, fun _ => rfl⟩, ⟨_, rfl, fun _ => rfl⟩, ⟨_, rfl, fun _ => rfl⟩, ⟨_, rfl, fun _ => rfl⟩, ⟨_, rfl, fun _ => rfl⟩, ⟨_, rfl, fun _ => rfl⟩, ⟨_, rfl, fun _ => rfl⟩, ⟨_, rfl, fun _ => rfl⟩, ⟨_, rfl, fun _ => rfl⟩, ⟨_, rfl, fun _ => rfl⟩, ⟨_, rfl, fun _ => rfl⟩, ⟨_, rfl, fun _ => rfl⟩, trivial⟩ ⟨rfl, rfl, rfl, rfl, rfl, rfl, rfl, rfl, rfl, rfl, rfl, trivial⟩ rfl rfl rfl rfl rfl rfl rfl) zd151_100 zxt153 rfl (by decide) (by decide) rfl ?_
          refine zv_ist hB zd151_103 rfl rfl rfl ?_
          refine zv_ald hB zd151_105 rfl rfl rfl ?_
          refine zv_getr hB zd151_106 rfl ?_
          obtain ⟨r12, hr12, h⟩ := zi_bind h
          refine zv_cv hB (zv_emq (va2 := [.inr 2]) (F := [.inl f0, .inl f1, .inr 5, .inr 2, .inr 5, .inl r11.2.2.2.1, .inl r11.2.1, .inl r11.2.2.1, .inl f8, .inl f9, .inl f10, .inl f11, .inl f12, .inl f13, .inl r11.2.2.2.2.1, .inl f15, .inl r11.2.2.2.2.2.1, .inl f17, .inl f18]) (F' := [.inl f0, .inl f1, .inr 5, .inr 2, .inr 5, .inl r11.2.2.2.1, .inl r11.2.1, .inl r11.2.2.1, .inl r12.1, .inl r12.2.1, .inl f10, .inl f11, .inl f12, .inl f13, .inl r11.2.2.2.2.1, .inl f15, .inl r11.2.2.2.2.2.1, .inl f17, .inl f18]) (G := [g0, r10.2, r11.2.2.2.2.2.2.1, g3, g4, g5, g6, g7, g8, g9, r11.2.2.2.2.2.2.2, g11, g12, g13, g14, g15]) (G' := [g0, r10.2, r11.2.2.2.2.2.2.1, r12.2.2.1, r12.2.2.2, g5, g6, g7, g8, g9, r11.2.2.2.2.2.2.2, g11, g12, g13, g14, g15]) (ρ := [2, 9, 19, 10, 20]) (φ := [8, 9]) (ψ := [3, 13, 4, 14]) [none, none, none, none, none, none, none, none, some 0, some 1, none, none, none, none, none, none, none, none, none] [none, none, none, some 0, some 2, none, none, none, none, none, none, none, none, some 1, some 3, none] zyw_Sky_passHour zyw_X_steered zye_X_steered (by decide +kernel) (zt_Sky_passHour hr12) ⟨⟨_, rfl, fun _ => rfl⟩, ⟨_, rfl, fun _ => rfl⟩, trivial⟩ ⟨rfl, rfl, rfl, rfl, trivial⟩ rfl rfl rfl rfl rfl rfl rfl) zd151_109 zxt155 rfl (by decide) (by decide) rfl ?_
          refine zv_iincw hB zd151_112 rfl rfl ?_
          refine zv_goto hB zd151_115 rfl ?_
          refine zv_wk hB (L' := [.inr 0, .inl x1, .inl x2, .inl x3, .inl x4, .inl r11.1, .inl (zi_w (x6 + 1))]) (F' := [.inl f0, .inl f1, .inr 5, .inr 1000, .inr 1000, .inl r11.2.2.2.1, .inl r11.2.1, .inl r11.2.2.1, .inl r12.1, .inl r12.2.1, .inl f10, .inl f11, .inl f12, .inl f13, .inl r11.2.2.2.2.1, .inl f15, .inl r11.2.2.2.2.2.1, .inl f17, .inl f18]) ⟨fun _ => rfl, fun _ => rfl, fun _ => rfl, fun _ => rfl, fun _ => rfl, fun _ => rfl, fun _ => rfl, trivial⟩ ⟨fun _ => rfl, fun _ => rfl, fun _ => rfl, fun (h : zv_is (.inr 1000)) => (Nat.lt_irrefl 1000 h).elim, fun (h : zv_is (.inr 1000)) => (Nat.lt_irrefl 1000 h).elim, fun _ => rfl, fun _ => rfl, fun _ => rfl, fun _ => rfl, fun _ => rfl, fun _ => rfl, fun _ => rfl, fun _ => rfl, fun _ => rfl, fun _ => rfl, fun _ => rfl, fun _ => rfl, fun _ => rfl, fun _ => rfl, trivial⟩ ?_
          exact ih _ _ _ _ _ _ _ _ _ _ _ _ _ _ _ _ _ _ _ _ _ q h hK
        · rw [if_neg hc9] at h
          refine zv_ald hB zd151_59 rfl rfl rfl ?_
          refine zv_getr hB zd151_60 rfl ?_
          refine zv_ald hB zd151_63 rfl rfl rfl ?_
          refine zv_getq hB zd151_64 rfl rfl rfl ?_
          obtain ⟨r13, hr13, h⟩ := zi_bind h
          refine zv_cv hB (zv_emq (va2 := [.inr 2, .inr 5]) (F := [.inl f0, .inl f1, .inr 5, .inr 1000, .inr 1000, .inl f5, .inl f6, .inl f7, .inl f8, .inl f9, .inl f10, .inl f11, .inl f12, .inl f13, .inl f14, .inl f15, .inl f16, .inl f17, .inl f18]) (F' := [.inl f0, .inl f1, .inr 5, .inr 1000, .inr 1000, .inl f5, .inl f6, .inl f7, .inl f8, .inl f9, .inl f10, .inl f11, .inl r13.2.2.1, .inl f13, .inl f14, .inl f15, .inl r13.2.1, .inl f17, .inl r13.1]) (G := [g0, g1, g2, g3, g4, g5, g6, g7, g8, g9, g10, g11, g12, g13, g14, g15]) (G' := [g0, g1, r13.2.2.2.1, g3, g4, g5, g6, g7, g8, g9, r13.2.2.2.2, g11, g12, g13, g14, g15]) (ρ := [2, 5, 8, 12, 13, 14, 15, 16, 17, 21]) (φ := [8, 9, 18, 15, 16, 12]) (ψ := [2, 6, 7, 8, 9, 10, 11, 15]) [none, none, none, none, none, none, none, none, some 0, some 1, none, none, some 5, none, none, some 3, some 4, none, some 2] [none, none, some 0, none, none, none, some 1, some 2, some 3, some 4, some 5, some 6, none, none, none, some 7] zyw_Sky_drawClouds zyw_X_steered zye_X_steered (by decide +kernel) (zt_Sky_drawClouds hr13) ⟨⟨_, rfl, fun _ => rfl⟩, ⟨_, rfl, fun _ => rfl⟩, ⟨_, rfl, fun _ => rfl⟩, ⟨_, rfl, fun _ => rfl⟩, ⟨_, rfl, fun _ => rfl⟩, ⟨_, rfl, fun _ => rfl⟩, trivial⟩ ⟨rfl, rfl, rfl, rfl, rfl, rfl, rfl, rfl, trivial⟩ rfl rfl rfl rfl rfl rfl rfl) zd151_67 zxt152 rfl (by decide) (by decide) rfl ?_
          refine zv_ald hB zd151_70 rfl rfl rfl ?_
          refine zv_getr hB zd151_71 rfl ?_
          refine zv_ald hB zd151_74 rfl rfl rfl ?_
          refine zv_getr hB zd151_75 rfl ?_
          refine zv_ald hB zd151_78 rfl rfl rfl ?_
          refine zv_getq hB zd151_79 rfl rfl rfl ?_
          obtain ⟨r14, hr14, h⟩ := zi_bind h
          refine zv_cv hB (zv_emq (va2 := [.inr 4, .inr 2, .inr 5]) (F := [.inl f0, .inl f1, .inr 5, .inr 1000, .inr 1000, .inl f5, .inl f6, .inl f7, .inl f8, .inl f9, .inl f10, .inl f11, .inl r13.2.2.1, .inl f13, .inl f14, .inl f15, .inl r13.2.1, .inl f17, .inl r13.1]) (F' := [.inl f0, .inl f1, .inr 5, .inr 2, .inr 5, .inl r14.1, .inl f6, .inl f7, .inl f8, .inl f9, .inl f10, .inl f11, .inl r13.2.2.1, .inl f13, .inl f14, .inl f15, .inl r13.2.1, .inl f17, .inl r13.1]) (G := [g0, g1, r13.2.2.2.1, g3, g4, g5, g6, g7, g8, g9, r13.2.2.2.2, g11, g12, g13, g14, g15]) (G' := [g0, r14.2, r13.2.2.2.1, g3, g4, g5, g6, g7, g8, g9, r13.2.2.2.2, g11, g12, g13, g14, g15]) (ρ := [4, 2, 5, 6]) (φ := [3, 4, 5]) (ψ := [1]) [none, none, none, some 0, some 1, some 2, none, none, none, none, none, none, none, none, none, none, none, none, none] [none, some 0, none, none, none, none, none, none, none, none, none, none, none, none, none, none] zyw_View_open zyw_X_steered zye_X_steered (by decide +kernel) (zt_View_open hr14) ⟨⟨_, rfl, fun (h : zv_is (.inr 1000)) => (Nat.lt_irrefl 1000 h).elim⟩, ⟨_, rfl, fun (h : zv_is (.inr 1000)) => (Nat.lt_irrefl 1000 h).elim⟩, ⟨_, rfl, fun _ => rfl⟩, trivial⟩ ⟨rfl, trivial⟩ rfl rfl rfl rfl rfl rfl rfl) zd151_82 zxt84 rfl (by decide) (by decide) rfl ?_
          refine zv_ald hB zd151_85 rfl rfl rfl ?_
          refine zv_getr hB zd151_86 rfl ?_
          refine zv_ald hB zd151_89 rfl rfl rfl ?_
          refine zv_getr hB zd151_90 rfl ?_
          refine zv_ald hB zd151_93 rfl rfl rfl ?_
          refine zv_getr hB zd151_94 rfl ?_
          refine zv_ild hB zd151_97 rfl rfl ?_
          refine zv_ild hB zd151_99 rfl rfl ?_
          obtain ⟨r15, hr15, h⟩ := zi_bind h
          refine zv_cv hB (zv_emq (va2 := [.inr 7, .inr 4, .inr 1, .inl x5, .inl x2]) (F := [.inl f0, .inl f1, .inr 5, .inr 2, .inr 5, .inl r14.1, .inl f6, .inl f7, .inl f8, .inl f9, .inl f10, .inl f11, .inl r13.2.2.1, .inl f13, .inl f14, .inl f15, .inl r13.2.1, .inl f17, .inl r13.1]) (F' := [.inl f0, .inl f1, .inr 5, .inr 2, .inr 5, .inl r15.2.2.2.1, .inl r15.2.1, .inl r15.2.2.1, .inl f8, .inl f9, .inl f10, .inl f11, .inl r13.2.2.1, .inl f13, .inl r15.2.2.2.2.1, .inl f15, .inl r15.2.2.2.2.2.1, .inl f17, .inl r13.1]) (G := [g0, r14.2, r13.2.2.2.1, g3, g4, g5, g6, g7, g8, g9, r13.2.2.2.2, g11, g12, g13, g14, g15]) (G' := [g0, r14.2, r15.2.2.2.2.2.2.1, g3, g4, g5, g6, g7, g8, g9, r15.2.2.2.2.2.2.2, g11, g12, g13, g14, g15]) (ρ := [7, 4, 1, 5, 8, 2, 9, 10, 11, 12, 13, 14, 15, 16, 17, 18]) (φ := [4, 3, 6, 7, 8, 9, 1, 10, 11, 12, 13, 5, 14, 15, 16, 17]) (ψ := [2, 3, 4, 5, 6, 7, 8, 9, 10, 11, 12]) [none, some 6, none, some 1, some 0, some 11, some 2, some 3, some 4, some 5, some 7, some 8, some 9, some 10, some 12, some 13, some 14, some 15, none] [none, none, some 0, some 1, some 2, some 3, some 4, some 5, some 6, some 7, some 8, some 9, some 10, none, none, none] zyw_Pilot_step zyw_X_steered zye_X_steered (by decide +kernel) (zt_Pilot_step hr15) ⟨⟨_, rfl, fun _ => rfl⟩, ⟨_, rfl, fun _ => rfl⟩, ⟨_, rfl, fun _ => rfl⟩, ⟨_, rfl, fun _ => rfl⟩, ⟨_, rfl, fun _ => rfl⟩, ⟨_, rfl, fun _ => rfl⟩, ⟨_, rfl, fun _ => rfl⟩, ⟨_, rfl, fun _ => rfl⟩, ⟨_, rfl, fun _ => rfl⟩, ⟨_, rfl, fun _ => rfl⟩, ⟨_, rfl, fun _ => rfl⟩, ⟨_, rfl, fun _ => rfl⟩, ⟨_, rfl, fun _ => rfl⟩, ⟨_, rfl, fun _ => rfl⟩, ⟨_, rfl, fun _ => rfl⟩, ⟨_, rfl, fun _ => rfl⟩, trivial⟩ ⟨rfl, rfl, rfl, rfl, rfl, rfl, rfl, rfl, rfl, rfl, rfl, trivial⟩ rfl rfl rfl rfl rfl rfl rfl) zd151_100 zxt153 rfl (by decide) (by decide) rfl ?_
          refine zv_ist hB zd151_103 rfl rfl rfl ?_
          refine zv_ald hB zd151_105 rfl rfl rfl ?_
          refine zv_getr hB zd151_106 rfl ?_
          obtain ⟨r16, hr16, h⟩ := zi_bind h
          refine zv_cv hB (zv_emq (va2 := [.inr 2]) (F := [.inl f0, .inl f1, .inr 5, .inr 2, .inr 5, .inl r15.2.2.2.1, .inl r15.2.1, .inl r15.2.2.1, .inl f8, .inl f9, .inl f10, .inl f11, .inl r13.2.2.1, .inl f13, .inl r15.2.2.2.2.1, .inl f15, .inl r15.2.2.2.2.2.1, .inl f17, .inl r13.1]) (F' := [.inl f0, .inl f1, .inr 5, .inr 2, .inr 5, .inl r15.2.2.2.1, .inl r15.2.1, .inl r15.2.2.1, .inl r16.1, .inl r16.2.1, .inl f10, .inl f11, .inl r13.2.2.1, .inl f13, .inl r15.2.2.2.2.1, .inl f15, .inl r15.2.2.2.2.2.1, .inl f17, .inl r13.1]) (G := [g0, r14.2, r15.2.2.2.2.2.2.1, g3, g4, g5, g6, g7, g8, g9, r15.2.2.2.2.2.2.2, g11, g12, g13, g14, g15]) (G' := [g0, r14.2, r15.2.2.2.2.2.2.1, r16.2.2.1, r16.2.2.2, g5, g6, g7, g8, g9, r15.2.2.2.2.2.2.2, g11, g12, g13, g14, g15]) (ρ := [2, 9, 19, 10, 20]) (φ := [8, 9]) (ψ := [3, 13, 4, 14]) [none, none, none, none, none, none, none, none, some 0, some 1, none, none, none, none, none, none, none, none, none] [none, none, none, some 0, some 2, none, none, none, none, none, none, none, none, some 1, some 3, none] zyw_Sky_passHour zyw_X_steered zye_X_steered (by decide +kernel) (zt_Sky_passHour hr16) ⟨⟨_, rfl, fun _ => rfl⟩, ⟨_, rfl, fun _ => rfl⟩, trivial⟩ ⟨rfl, rfl, rfl, rfl, trivial⟩ rfl rfl rfl rfl rfl rfl rfl) zd151_109 zxt155 rfl (by decide) (by decide) rfl ?_
          refine zv_iincw hB zd151_112 rfl rfl ?_
          refine zv_goto hB zd151_115 rfl ?_
          refine zv_wk hB (L' := [.inr 0, .inl x1, .inl x2, .inl x3, .inl x4, .inl r15.1, .inl (zi_w (x6 + 1))]) (F' := [.inl f0, .inl f1, .inr 5, .inr 1000, .inr 1000, .inl r15.2.2.2.1, .inl r15.2.1, .inl r15.2.2.1, .inl r16.1, .inl r16.2.1, .inl f10, .inl f11, .inl r13.2.2.1, .inl f13, .inl r15.2.2.2.2.1, .inl f15, .inl r15.2.2.2.2.2.1, .inl f17, .inl r13.1]) ⟨fun _ => rfl, fun _ => rfl, fun _ => rfl, fun _ => rfl, fun _ => rfl, fun _ => rfl, fun _ => rfl, trivial⟩ ⟨fun _ => rfl, fun _ => rfl, fun _ => rfl, fun (h : zv_is (.inr 1000)) => (Nat.lt_irrefl 1000 h).elim, fun (h : zv_is (.inr 1000)) => (Nat.lt_irrefl 1000 h).elim, fun _ => rfl, fun _ => rfl, fun _ => rfl, fun _ => rfl, fun _ => rfl, fun _ => rfl, fun _ => rfl, fun _ => rfl, fun _ => rfl, fun _ => rfl, fun _ => rfl, fun _ => rfl, fun _ => rfl, fun _ => rfl, trivial⟩ ?_
          exact ih _ _ _ _ _ _ _ _ _ _ _ _ _ _ _ _ _ _ _ _ _ q h hK
  unfold zf_X_steered at h
  refine zv_ald hB zd151_0 rfl rfl rfl ?_
  refine zv_getr hB zd151_1 rfl ?_
  refine zv_ild hB zd151_4 rfl rfl ?_
  obtain ⟨r1, hr1, h⟩ := zi_bind h
  refine zv_cv hB (zv_emq (va2 := [.inr 1, .inl x1]) (F := [.inl f0, .inl f1, .inr 5, .inr 1000, .inr 1000, .inl f5, .inl f6, .inl f7, .inl f8, .inl f9, .inl f10, .inl f11, .inl f12, .inl f13, .inl f14, .inl f15, .inl f16, .inl f17, .inl f18]) (F' := [.inl f0, .inl f1, .inr 5, .inr 1000, .inr 1000, .inl f5, .inl f6, .inl f7, .inl f8, .inl f9, .inl f10, .inl f11, .inl f12, .inl f13, .inl f14, .inl f15, .inl f16, .inl f17, .inl f18]) (G := [g0, g1, g2, g3, g4, g5, g6, g7, g8, g9, g10, g11, g12, g13, g14, g15]) (G' := [g0, g1, g2, g3, g4, g5, g6, g7, g8, g9, g10, g11, g12, g13, g14, g15]) (ρ := [1]) (φ := [0]) (ψ := []) [some 0, none, none, none, none, none, none, none, none, none, none, none, none, none, none, none, none, none, none] [none, none, none, none, none, none, none, none, none, none, none, none, none, none, none, none] zyw_Sea_hasShip zyw_X_steered zye_X_steered (by decide +kernel) (zt_Sea_hasShip hr1) ⟨⟨_, rfl, fun _ => rfl⟩, trivial⟩ trivial rfl rfl rfl rfl rfl rfl rfl) zd151_5 zxt26 rfl (by decide) (by decide) rfl ?_
  refine zv_zeq hB zd151_8 rfl (fun hc2 => ?_) (fun hc2 => ?_)
  · rw [if_pos hc2] at h
    refine zv_con hB zd151_32 rfl ?_
    have hw := Option.some.inj h
    subst hw
    exact hret _ _ _ _ _ zd151_33 (by trivial) ⟨rfl, rfl, rfl⟩
  · rw [if_neg hc2] at h
    refine zv_ald hB zd151_11 rfl rfl rfl ?_
    refine zv_getr hB zd151_12 rfl ?_
    refine zv_ild hB zd151_15 rfl rfl ?_
    obtain ⟨r3, hr3, h⟩ := zi_bind h
    refine zv_cv hB (zv_emq (va2 := [.inr 2, .inl x2]) (F := [.inl f0, .inl f1, .inr 5, .inr 1000, .inr 1000, .inl f5, .inl f6, .inl f7, .inl f8, .inl f9, .inl f10, .inl f11, .inl f12, .inl f13, .inl f14, .inl f15, .inl f16, .inl f17, .inl f18]) (F' := [.inl f0, .inl f1, .inr 5, .inr 1000, .inr 1000, .inl f5, .inl f6, .inl f7, .inl f8, .inl f9, .inl f10, .inl f11, .inl f12, .inl f13, .inl f14, .inl f15, .inl f16, .inl f17, .inl f18]) (G := [g0, g1, g2, g3, g4, g5, g6, g7, g8, g9, g10, g11, g12, g13, g14, g15]) (G' := [g0, g1, g2, g3, g4, g5, g6, g7, g8, g9, g10, g11, g12, g13, g14, g15]) (ρ := [2]) (φ := [1]) (ψ := []) [none, some 0, none, none, none, none, none, none, none, none, none, none, none, none, none, none, none, none, none] [none, none, none, none, none, none, none, none, none, none, none, none, none, none, none, none] zyw_Sky_hasStar zyw_X_steered zye_X_steered (by decide +kernel) (zt_Sky_hasStar hr3) ⟨⟨_, rfl, fun _ => rfl⟩, trivial⟩ trivial rfl rfl rfl rfl rfl rfl rfl) zd151_16 zxt18 rfl (by decide) (by decide) rfl ?_
    refine zv_zeq hB zd151_19 rfl (fun hc4 => ?_) (fun hc4 => ?_)
    · rw [if_pos hc4] at h
      refine zv_con hB zd151_32 rfl ?_
      have hw := Option.some.inj h
      subst hw
      exact hret _ _ _ _ _ zd151_33 (by trivial) ⟨rfl, rfl, rfl⟩
    · rw [if_neg hc4] at h
      refine zv_ild hB zd151_22 rfl rfl ?_
      refine zv_con hB zd151_23 rfl ?_
      refine zv_con hB zd151_24 rfl ?_
      obtain ⟨r5, hr5, h⟩ := zi_bind h
      refine zv_cs hB (zv_emq (va2 := [.inl x3, .inl 1, .inl 48]) (F := [.inl f0, .inl f1, .inr 5, .inr 1000, .inr 1000, .inl f5, .inl f6, .inl f7, .inl f8, .inl f9, .inl f10, .inl f11, .inl f12, .inl f13, .inl f14, .inl f15, .inl f16, .inl f17, .inl f18]) (F' := [.inl f0, .inl f1, .inr 5, .inr 1000, .inr 1000, .inl f5, .inl f6, .inl f7, .inl f8, .inl f9, .inl f10, .inl f11, .inl f12, .inl f13, .inl f14, .inl f15, .inl f16, .inl f17, .inl f18]) (G := [g0, g1, g2, g3, g4, g5, g6, g7, g8, g9, g10, g11, g12, g13, g14, g15]) (G' := [g0, g1, g2, g3, g4, g5, g6, g7, g8, g9, g10, g11, g12, g13, g14, g15]) (ρ := []) (φ := []) (ψ := []) [none, none, none, none, none, none, none, none, none, none, none, none, none, none, none, none, none, none, none] [none, none, none, none, none, none, none, none, none, none, none, none, none, none, none, none] zyw_X_isWithin zyw_X_steered zye_X_steered (by decide +kernel) (zt_X_isWithin hr5) trivial trivial rfl rfl rfl rfl rfl rfl rfl) zd151_26 zxt15 rfl (by decide) (by decide) rfl ?_
      refine zv_zne hB zd151_29 rfl (fun hc6 => ?_) (fun hc6 => ?_)
      · rw [if_neg hc6] at h
        refine zv_ald hB zd151_34 rfl rfl rfl ?_
        refine zv_getr hB zd151_35 rfl ?_
        refine zv_getr hB zd151_38 rfl ?_
        refine zv_ild hB zd151_41 rfl rfl ?_
        obtain ⟨c7, h⟩ := zi_if h
        refine zv_iald hB zd151_42 rfl rfl (zi_ix_ok c7).1 (zi_ix_ok c7).2 (fun _ _ => ?_)
        refine zv_ist hB zd151_43 rfl rfl rfl ?_
        refine zv_con hB zd151_45 rfl ?_
        refine zv_ist hB zd151_46 rfl rfl rfl ?_
        obtain ⟨q17, hq17, h⟩ := zi_bind h
        refine l0 _ _ _ _ _ _ _ _ _ _ _ _ _ _ _ _ _ _ _ _ _ _ q17 hq17 ?_
        show good 118 [.inr 0, .inl x1, .inr 1000, .inr 1000, .inr 1000, .inl q17.1, .inr 1000] [] [.inl f0, .inl f1, .inr 5, .inr 1000, .inr 1000, .inl q17.2.1, .inl q17.2.2.1, .inl q17.2.2.2.1, .inl q17.2.2.2.2.1, .inl q17.2.2.2.2.2.1, .inl f10, .inl f11, .inl q17.2.2.2.2.2.2.1, .inl f13, .inl q17.2.2.2.2.2.2.2.1, .inl f15, .inl q17.2.2.2.2.2.2.2.2.1, .inl f17, .inl q17.2.2.2.2.2.2.2.2.2.1] [g0, q17.2.2.2.2.2.2.2.2.2.2.1, q17.2.2.2.2.2.2.2.2.2.2.2.1, q17.2.2.2.2.2.2.2.2.2.2.2.2.1, q17.2.2.2.2.2.2.2.2.2.2.2.2.2.1, g5, g6, g7, g8, g9, q17.2.2.2.2.2.2.2.2.2.2.2.2.2.2, g11, g12, g13, g14, g15]
        refine zv_ald hB zd151_118 rfl rfl rfl ?_
        refine zv_getr hB zd151_119 rfl ?_
        refine zv_getr hB zd151_122 rfl ?_
        refine zv_ild hB zd151_125 rfl rfl ?_
        refine zv_ild hB zd151_126 rfl rfl ?_
        refine zv_iast hB zd151_128 rfl rfl (zi_ix_ok c7).1 (zi_ix_ok c7).2 ?_
        refine zv_ild hB zd151_129 rfl rfl ?_
        have hw := Option.some.inj h
        subst hw
        exact hret _ _ _ _ _ zd151_131 (by trivial) ⟨rfl, rfl, rfl⟩
      · rw [if_pos hc6] at h
        refine zv_con hB zd151_32 rfl ?_
        have hw := Option.some.inj h
        subst hw
        exact hret _ _ _ _ _ zd151_33 (by trivial) ⟨rfl, rfl, rfl⟩
/-! X_hours (I)I -/
-- names: 0 StarTales('arg', 0), 1 Sky(0, 0, 0), 2 (0, 24)(1, 1, 1), 3 (0, 24)(1, 1, 4), 4 (0, 24)(1, 1, 2), 5 (0, 24)(1, 1, 5)
-- fields: f0 = 1.hour_, f1 = 1.night_; arrays: g0 = 2, g1 = 3, g2 = 4, g3 = 5; out: [('ret', None), ('f', 0), ('f', 1), ('g', 0), ('g', 2)]
abbrev zy_X_hours : zNL := (6, [(0, 0), (1, 1)], [(1, 1, 6, 0), (1, 1, 7, 1)], [(0, 0, 0, 1), (1, 1, 1, 2), (1, 1, 4, 3), (1, 1, 2, 4), (1, 1, 5, 5)], [(2, 0, 24, 0), (3, 0, 24, 1), (4, 0, 24, 2), (5, 0, 24, 3)])
theorem zyw_X_hours : zv_wf zy_X_hours = true := by decide +kernel
theorem zye_X_hours : zv_ek2 zy_X_hours = true := by decide +kernel
def zf_X_hours_l0_b (x1 : Int) (g1 : (Int → Int)) (g3 : (Int → Int)) (rec : Int → Int → Int → (Int → Int) → (Int → Int) → Option (Int × Int × (Int → Int) × (Int → Int))) (x2 : Int) (f0 : Int) (f1 : Int) (g0 : (Int → Int)) (g2 : (Int → Int)) : Option (Int × Int × (Int → Int) × (Int → Int)) := if x2 < x1 then ((zf_Sky_passHour f0 f1 g0 g1 g2 g3).bind fun r4 => (rec (zi_w (x2 + 1)) r4.1 r4.2.1 r4.2.2.1 r4.2.2.2)) else (some (f0, f1, g0, g2))
def zf_X_hours_l0 (x1 : Int) (g1 : (Int → Int)) (g3 : (Int → Int)) : Nat → Int → Int → Int → (Int → Int) → (Int → Int) → Option (Int × Int × (Int → Int) × (Int → Int))
  | 0, _, _, _, _, _ => none
  | n + 1, x2, f0, f1, g0, g2 => zf_X_hours_l0_b x1 g1 g3 (zf_X_hours_l0 x1 g1 g3 n) x2 f0 f1 g0 g2
def zf_X_hours (x1 : Int) (f0 : Int) (f1 : Int) (g0 : (Int → Int)) (g1 : (Int → Int)) (g2 : (Int → Int)) (g3 : (Int → Int)) : Option (Int × Int × Int × (Int → Int) × (Int → Int)) := (zf_X_isWithin x1 1 240).bind fun r1 => (if r1 = 0 then (some ((-1), f0, f1, g0, g2)) else ((zf_X_hours_l0 x1 g1 g3 zi_fu 0 f0 f1 g0 g2).bind fun q5 => (some (q5.2.1, q5.1, q5.2.1, q5.2.2.1, q5.2.2.2))))
theorem zd159_0 : decode zxm159.2.1 0 = .ok (.iload_n 1, 1) := by decide +kernel
theorem zd159_1 : decode zxm159.2.1 1 = .ok (.iconst 1, 1) := by decide +kernel
theorem zd159_2 : decode zxm159.2.1 2 = .ok (.sipush 240, 3) := by decide +kernel
theorem zd159_5 : decode zxm159.2.1 5 = .ok (.invokestatic 126, 3) := by decide +kernel
theorem zd159_8 : decode zxm159.2.1 8 = .ok (.ifCond .ne 5, 3) := by decide +kernel
theorem zd159_11 : decode zxm159.2.1 11 = .ok (.iconst (-1), 1) := by decide +kernel
theorem zd159_12 : decode zxm159.2.1 12 = .ok (.ireturn, 1) := by decide +kernel
theorem zd159_13 : decode zxm159.2.1 13 = .ok (.iconst 0, 1) := by decide +kernel
theorem zd159_14 : decode zxm159.2.1 14 = .ok (.istore_n 2, 1) := by decide +kernel
theorem zd159_15 : decode zxm159.2.1 15 = .ok (.iload_n 2, 1) := by decide +kernel
theorem zd159_16 : decode zxm159.2.1 16 = .ok (.iload_n 1, 1) := by decide +kernel
theorem zd159_17 : decode zxm159.2.1 17 = .ok (.if_icmp .ge 16, 3) := by decide +kernel
theorem zd159_20 : decode zxm159.2.1 20 = .ok (.aload_n 0, 1) := by decide +kernel
theorem zd159_21 : decode zxm159.2.1 21 = .ok (.getfield 10, 3) := by decide +kernel
theorem zd159_24 : decode zxm159.2.1 24 = .ok (.invokevirtual 334, 3) := by decide +kernel
theorem zd159_27 : decode zxm159.2.1 27 = .ok (.iinc 2 1, 3) := by decide +kernel
theorem zd159_30 : decode zxm159.2.1 30 = .ok (.goto (-15), 3) := by decide +kernel
theorem zd159_33 : decode zxm159.2.1 33 = .ok (.aload_n 0, 1) := by decide +kernel
theorem zd159_34 : decode zxm159.2.1 34 = .ok (.getfield 10, 3) := by decide +kernel
theorem zd159_37 : decode zxm159.2.1 37 = .ok (.getfield 337, 3) := by decide +kernel
theorem zd159_40 : decode zxm159.2.1 40 = .ok (.ireturn, 1) := by decide +kernel
theorem zt_X_hours {x1 : Int} {f0 : Int} {f1 : Int} {g0 : (Int → Int)} {g1 : (Int → Int)} {g2 : (Int → Int)} {g3 : (Int → Int)} {o : Int × Int × Int × (Int → Int) × (Int → Int)} (h : zf_X_hours x1 f0 f1 g0 g1 g2 g3 = some o) : zv_Fn z_TB z_cl z_KX zy_X_hours zxm159 (4, 240) [.inr 0, .inl x1] [.inl f0, .inl f1] [g0, g1, g2, g3] (some o.1) [.inl o.2.1, .inl o.2.2.1] [o.2.2.2.1, g1, o.2.2.2.2, g3] := zv_meth (K := (z_KF0, z_KC0, z_KL0, z_KT0, [], [], [], none)) (FT := z_FT) (MT := z_MT) (n := 2) zxp159 (z_ks0 _ (fun _ h => List.mem_cons_of_mem _ h) _ _ _ _ (fun j r h _ => by cases h)) (fun _ _ => zs_KX_p) zyw_X_hours (fun va F G h => by obtain ⟨rfl, _⟩ := h; rfl) (fun va F G h => by obtain ⟨rfl, _⟩ := h; rfl) rfl fun good va F G hB hret hvret hP => by
  obtain ⟨rfl, rfl, rfl⟩ := hP
  have l0 : ∀ (n : Nat) (x1 : Int) (x2 : Int) (f0 : Int) (f1 : Int) (g0 : (Int → Int)) (g2 : (Int → Int)) (q : Int × Int × (Int → Int) × (Int → Int)), zf_X_hours_l0 x1 g1 g3 n x2 f0 f1 g0 g2 = some q → (good 33 [.inr 0, .inr 1000, .inr 1000] [] [.inl q.1, .inl q.2.1] [q.2.2.1, g1, q.2.2.2, g3]) → good 15 [.inr 0, .inl x1, .inl x2] [] [.inl f0, .inl f1] [g0, g1, g2, g3] := by
    intro n
    induction n with
    | zero => intro x1 x2 f0 f1 g0 g2 q h; exact absurd (show none = some q from h) (fun h => by cases h)
    | succ n ih =>
      intro x1 x2 f0 f1 g0 g2 q h hK
      replace h : zf_X_hours_l0_b x1 g1 g3 (zf_X_hours_l0 x1 g1 g3 n) x2 f0 f1 g0 g2 = some q := h
      unfold zf_X_hours_l0_b at h
      refine zv_ild hB zd159_15 rfl rfl ?_
      refine zv_ild hB zd159_16 rfl rfl ?_
      refine zv_cge hB zd159_17 rfl (fun hc3 => ?_) (fun hc3 => ?_)
      · rw [if_neg (Int.not_lt.mpr hc3)] at h
        have hq := Option.some.inj h
        subst hq
        refine zv_wk hB (L' := [.inr 0, .inr 1000, .inr 1000]) (F' := [.inl f0, .inl f1]) ⟨fun _ => rfl, fun (h : zv_is (.inr 1000)) => (Nat.lt_irrefl 1000 h).elim, fun (h : zv_is (.inr 1000)) => (Nat.lt_irrefl 1000 h).elim, trivial⟩ ⟨fun _ => rfl, fun _ => rfl, trivial⟩ ?_
        exact hK
      · rw [if_pos hc3] at h
        refine zv_ald hB zd159_20 rfl rfl rfl ?_
        refine zv_getr hB zd159_21 rfl ?_
        obtain ⟨r4, hr4, h⟩ := zi_bind h
        refine zv_cv hB (zv_emq (va2 := [.inr 1]) (F := [.inl f0, .inl f1]) (F' := [.inl r4.1, .inl r4.2.1]) (G := [g0, g1, g2, g3]) (G' := [r4.2.2.1, g1, r4.2.2.2, g3]) (ρ := [1, 2, 3, 4, 5]) (φ := [0, 1]) (ψ := [0, 1, 2, 3]) [some 0, some 1] [some 0, some 1, some 2, some 3] zyw_Sky_passHour zyw_X_hours zye_X_hours (by decide +kernel) (zt_Sky_passHour hr4) ⟨⟨_, rfl, fun _ => rfl⟩, ⟨_, rfl, fun _ => rfl⟩, trivial⟩ ⟨rfl, rfl, rfl, rfl, trivial⟩ rfl rfl rfl rfl rfl rfl rfl) zd159_24 zxt155 rfl (by decide) (by decide) rfl ?_
        refine zv_iincw hB zd159_27 rfl rfl ?_
        refine zv_goto hB zd159_30 rfl ?_
        exact ih _ _ _ _ _ _ q h hK
  unfold zf_X_hours at h
  refine zv_ild hB zd159_0 rfl rfl ?_
  refine zv_con hB zd159_1 rfl ?_
  refine zv_con hB zd159_2 rfl ?_
  obtain ⟨r1, hr1, h⟩ := zi_bind h
  refine zv_cs hB (zv_emq (va2 := [.inl x1, .inl 1, .inl 240]) (F := [.inl f0, .inl f1]) (F' := [.inl f0, .inl f1]) (G := [g0, g1, g2, g3]) (G' := [g0, g1, g2, g3]) (ρ := []) (φ := []) (ψ := []) [none, none] [none, none, none, none] zyw_X_isWithin zyw_X_hours zye_X_hours (by decide +kernel) (zt_X_isWithin hr1) trivial trivial rfl rfl rfl rfl rfl rfl rfl) zd159_5 zxt15 rfl (by decide) (by decide) rfl ?_
  refine zv_zne hB zd159_8 rfl (fun hc2 => ?_) (fun hc2 => ?_)
  · rw [if_neg hc2] at h
    refine zv_con hB zd159_13 rfl ?_
    refine zv_ist hB zd159_14 rfl rfl rfl ?_
    obtain ⟨q5, hq5, h⟩ := zi_bind h
    refine l0 _ _ _ _ _ _ _ q5 hq5 ?_
    show good 33 [.inr 0, .inr 1000, .inr 1000] [] [.inl q5.1, .inl q5.2.1] [q5.2.2.1, g1, q5.2.2.2, g3]
    refine zv_ald hB zd159_33 rfl rfl rfl ?_
    refine zv_getr hB zd159_34 rfl ?_
    refine zv_getf hB zd159_37 rfl rfl (fun _ _ => ?_)
    have hw := Option.some.inj h
    subst hw
    exact hret _ _ _ _ _ zd159_40 (by trivial) ⟨rfl, rfl, rfl⟩
  · rw [if_pos hc2] at h
    refine zv_con hB zd159_11 rfl ?_
    have hw := Option.some.inj h
    subst hw
    exact hret _ _ _ _ _ zd159_12 (by trivial) ⟨rfl, rfl, rfl⟩
end
