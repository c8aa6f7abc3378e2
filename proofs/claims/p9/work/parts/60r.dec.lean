/-! Methods as functions, and that they do what these do. -/
/-! Matcher_narrow (IIII)Z -/
-- names: 0 Matcher('arg', 0), 1 (0, 72)(0, 8, 0), 2 Tale(0, 8, 3), 3 (0, 8)(2, 6, 2), 4 (0, 24)(0, 8, 4)
-- fields: f0 = 0.tale_, f1 = 0.joined_; arrays: g0 = 1, g1 = 3, g2 = 4; out: [('ret', None), ('g', 0)]
abbrev zy_Matcher_narrow : zNL := (5, [(0, 8), (2, 6)], [(0, 8, 3, 0), (0, 8, 4, 1)], [(0, 8, 0, 1), (2, 6, 2, 3)], [(1, 0, 72, 0), (3, 0, 8, 1), (4, 0, 24, 2)])
theorem zyw_Matcher_narrow : zv_wf zy_Matcher_narrow = true := by decide +kernel
theorem zye_Matcher_narrow : zv_ek2 zy_Matcher_narrow = true := by decide +kernel
def zf_Matcher_narrow_l0_b (x2 : Int) (x3 : Int) (x4 : Int) (x5 : Int) (x6 : Int) (g1 : (Int → Int)) (g2 : (Int → Int)) (rec : Int → (Int → Int) → Option ((((Int → Int)) ⊕ (Int × (Int → Int))))) (x7 : Int) (g0 : (Int → Int)) : Option ((((Int → Int)) ⊕ (Int × (Int → Int)))) := if x7 < 8 then (if (zi_and (zi_shr x2 x7) 1) = 0 then (rec (zi_w (x7 + 1)) g0) else (cond (zi_ix (zi_w (x5 + x7)) 72) (cond (zi_ix x3 8) (if (zi_and (zi_shr (g1 x3) x7) 1) = 0 then (if (zi_and (g0 (zi_w (x5 + x7))) (zi_xor (zi_shl 1 x4) (-1))) = 0 then (some (.inr (0, g0))) else (cond (zi_ix (zi_w (x6 + x7)) 72) (rec (zi_w (x7 + 1)) (zv_up g0 (zi_w (x6 + x7)) (zi_and (g0 (zi_w (x5 + x7))) (zi_xor (zi_shl 1 x4) (-1))))) none)) else (cond (zi_ix x4 24) (if (zi_and (zi_and (g0 (zi_w (x5 + x7))) (zi_xor (zi_shl 1 x4) (-1))) (g2 x4)) = 0 then (some (.inr (0, g0))) else (cond (zi_ix (zi_w (x6 + x7)) 72) (rec (zi_w (x7 + 1)) (zv_up g0 (zi_w (x6 + x7)) (zi_and (zi_and (g0 (zi_w (x5 + x7))) (zi_xor (zi_shl 1 x4) (-1))) (g2 x4)))) none)) none)) none) none)) else (some (.inl g0))
def zf_Matcher_narrow_l0 (x2 : Int) (x3 : Int) (x4 : Int) (x5 : Int) (x6 : Int) (g1 : (Int → Int)) (g2 : (Int → Int)) : Nat → Int → (Int → Int) → Option ((((Int → Int)) ⊕ (Int × (Int → Int))))
  | 0, _, _ => none
  | n + 1, x7, g0 => zf_Matcher_narrow_l0_b x2 x3 x4 x5 x6 g1 g2 (zf_Matcher_narrow_l0 x2 x3 x4 x5 x6 g1 g2 n) x7 g0
def zf_Matcher_narrow (x1 : Int) (x2 : Int) (x3 : Int) (x4 : Int) (g0 : (Int → Int)) (g1 : (Int → Int)) (g2 : (Int → Int)) : Option (Int × (Int → Int)) := (zf_Matcher_narrow_l0 x2 x3 x4 (zi_w (x1 * 8)) (zi_w ((zi_w (x1 * 8)) + 8)) g1 g2 zi_fu 0 g0).bind fun q11 => Sum.elim (fun e12 => (some (1, e12))) (fun w13 => some w13) q11
theorem zd117_0 : decode zxm117.2.1 0 = .ok (.iload_n 1, 1) := by decide +kernel
theorem zd117_1 : decode zxm117.2.1 1 = .ok (.bipush 8, 2) := by decide +kernel
theorem zd117_3 : decode zxm117.2.1 3 = .ok (.imul, 1) := by decide +kernel
theorem zd117_4 : decode zxm117.2.1 4 = .ok (.istore 5, 2) := by decide +kernel
theorem zd117_6 : decode zxm117.2.1 6 = .ok (.iload 5, 2) := by decide +kernel
theorem zd117_8 : decode zxm117.2.1 8 = .ok (.bipush 8, 2) := by decide +kernel
theorem zd117_10 : decode zxm117.2.1 10 = .ok (.iadd, 1) := by decide +kernel
theorem zd117_11 : decode zxm117.2.1 11 = .ok (.istore 6, 2) := by decide +kernel
theorem zd117_13 : decode zxm117.2.1 13 = .ok (.iconst 0, 1) := by decide +kernel
theorem zd117_14 : decode zxm117.2.1 14 = .ok (.istore 7, 2) := by decide +kernel
theorem zd117_16 : decode zxm117.2.1 16 = .ok (.iload 7, 2) := by decide +kernel
theorem zd117_18 : decode zxm117.2.1 18 = .ok (.bipush 8, 2) := by decide +kernel
theorem zd117_20 : decode zxm117.2.1 20 = .ok (.if_icmp .ge 85, 3) := by decide +kernel
theorem zd117_23 : decode zxm117.2.1 23 = .ok (.iload_n 2, 1) := by decide +kernel
theorem zd117_24 : decode zxm117.2.1 24 = .ok (.iload 7, 2) := by decide +kernel
theorem zd117_26 : decode zxm117.2.1 26 = .ok (.ishr, 1) := by decide +kernel
theorem zd117_27 : decode zxm117.2.1 27 = .ok (.iconst 1, 1) := by decide +kernel
theorem zd117_28 : decode zxm117.2.1 28 = .ok (.iand, 1) := by decide +kernel
theorem zd117_29 : decode zxm117.2.1 29 = .ok (.ifCond .eq 70, 3) := by decide +kernel
theorem zd117_32 : decode zxm117.2.1 32 = .ok (.aload_n 0, 1) := by decide +kernel
theorem zd117_33 : decode zxm117.2.1 33 = .ok (.getfield 11, 3) := by decide +kernel
theorem zd117_36 : decode zxm117.2.1 36 = .ok (.iload 5, 2) := by decide +kernel
theorem zd117_38 : decode zxm117.2.1 38 = .ok (.iload 7, 2) := by decide +kernel
theorem zd117_40 : decode zxm117.2.1 40 = .ok (.iadd, 1) := by decide +kernel
theorem zd117_41 : decode zxm117.2.1 41 = .ok (.iaload, 1) := by decide +kernel
theorem zd117_42 : decode zxm117.2.1 42 = .ok (.iconst 1, 1) := by decide +kernel
theorem zd117_43 : decode zxm117.2.1 43 = .ok (.iload 4, 2) := by decide +kernel
theorem zd117_45 : decode zxm117.2.1 45 = .ok (.ishl, 1) := by decide +kernel
theorem zd117_46 : decode zxm117.2.1 46 = .ok (.iconst (-1), 1) := by decide +kernel
theorem zd117_47 : decode zxm117.2.1 47 = .ok (.ixor, 1) := by decide +kernel
theorem zd117_48 : decode zxm117.2.1 48 = .ok (.iand, 1) := by decide +kernel
theorem zd117_49 : decode zxm117.2.1 49 = .ok (.istore 8, 2) := by decide +kernel
theorem zd117_51 : decode zxm117.2.1 51 = .ok (.aload_n 0, 1) := by decide +kernel
theorem zd117_52 : decode zxm117.2.1 52 = .ok (.getfield 30, 3) := by decide +kernel
theorem zd117_55 : decode zxm117.2.1 55 = .ok (.getfield 52, 3) := by decide +kernel
theorem zd117_58 : decode zxm117.2.1 58 = .ok (.iload_n 3, 1) := by decide +kernel
theorem zd117_59 : decode zxm117.2.1 59 = .ok (.iaload, 1) := by decide +kernel
theorem zd117_60 : decode zxm117.2.1 60 = .ok (.iload 7, 2) := by decide +kernel
theorem zd117_62 : decode zxm117.2.1 62 = .ok (.ishr, 1) := by decide +kernel
theorem zd117_63 : decode zxm117.2.1 63 = .ok (.iconst 1, 1) := by decide +kernel
theorem zd117_64 : decode zxm117.2.1 64 = .ok (.iand, 1) := by decide +kernel
theorem zd117_65 : decode zxm117.2.1 65 = .ok (.ifCond .eq 15, 3) := by decide +kernel
theorem zd117_68 : decode zxm117.2.1 68 = .ok (.iload 8, 2) := by decide +kernel
theorem zd117_70 : decode zxm117.2.1 70 = .ok (.aload_n 0, 1) := by decide +kernel
theorem zd117_71 : decode zxm117.2.1 71 = .ok (.getfield 34, 3) := by decide +kernel
theorem zd117_74 : decode zxm117.2.1 74 = .ok (.iload 4, 2) := by decide +kernel
theorem zd117_76 : decode zxm117.2.1 76 = .ok (.iaload, 1) := by decide +kernel
theorem zd117_77 : decode zxm117.2.1 77 = .ok (.iand, 1) := by decide +kernel
theorem zd117_78 : decode zxm117.2.1 78 = .ok (.istore 8, 2) := by decide +kernel
theorem zd117_80 : decode zxm117.2.1 80 = .ok (.iload 8, 2) := by decide +kernel
theorem zd117_82 : decode zxm117.2.1 82 = .ok (.ifCond .ne 5, 3) := by decide +kernel
theorem zd117_85 : decode zxm117.2.1 85 = .ok (.iconst 0, 1) := by decide +kernel
theorem zd117_86 : decode zxm117.2.1 86 = .ok (.ireturn, 1) := by decide +kernel
theorem zd117_87 : decode zxm117.2.1 87 = .ok (.aload_n 0, 1) := by decide +kernel
theorem zd117_88 : decode zxm117.2.1 88 = .ok (.getfield 11, 3) := by decide +kernel
theorem zd117_91 : decode zxm117.2.1 91 = .ok (.iload 6, 2) := by decide +kernel
theorem zd117_93 : decode zxm117.2.1 93 = .ok (.iload 7, 2) := by decide +kernel
theorem zd117_95 : decode zxm117.2.1 95 = .ok (.iadd, 1) := by decide +kernel
theorem zd117_96 : decode zxm117.2.1 96 = .ok (.iload 8, 2) := by decide +kernel
theorem zd117_98 : decode zxm117.2.1 98 = .ok (.iastore, 1) := by decide +kernel
theorem zd117_99 : decode zxm117.2.1 99 = .ok (.iinc 7 1, 3) := by decide +kernel
theorem zd117_102 : decode zxm117.2.1 102 = .ok (.goto (-86), 3) := by decide +kernel
theorem zd117_105 : decode zxm117.2.1 105 = .ok (.iconst 1, 1) := by decide +kernel
theorem zd117_106 : decode zxm117.2.1 106 = .ok (.ireturn, 1) := by decide +kernel
theorem zt_Matcher_narrow {x1 : Int} {x2 : Int} {x3 : Int} {x4 : Int} {g0 : (Int → Int)} {g1 : (Int → Int)} {g2 : (Int → Int)} {o : Int × (Int → Int)} (h : zf_Matcher_narrow x1 x2 x3 x4 g0 g1 g2 = some o) : zv_Fn z_TB z_cl z_KX zy_Matcher_narrow zxm117 (0, 0) [.inr 0, .inl x1, .inl x2, .inl x3, .inl x4] [.inr 2, .inr 4] [g0, g1, g2] (some o.1) [.inr 2, .inr 4] [o.2, g1, g2] := zv_meth (K := (z_KF4, z_KC4, z_KL4, z_KT4, [], [], [], none)) (FT := z_FT) (MT := z_MT) (n := 5) zxp117 (z_ks4 _ (fun _ h => List.mem_cons_of_mem _ h) _ _ _ _ (fun j r h _ => by cases h)) (fun _ _ => zs_KX_p) zyw_Matcher_narrow (fun va F G h => by obtain ⟨rfl, _⟩ := h; rfl) (fun va F G h => by obtain ⟨rfl, _⟩ := h; rfl) rfl fun good va F G hB hret hvret hP => by
  obtain ⟨rfl, rfl, rfl⟩ := hP
  have l0 : ∀ (n : Nat) (x2 : Int) (x3 : Int) (x4 : Int) (x5 : Int) (x6 : Int) (x7 : Int) (g0 : (Int → Int)) (q : (((Int → Int)) ⊕ (Int × (Int → Int)))), zf_Matcher_narrow_l0 x2 x3 x4 x5 x6 g1 g2 n x7 g0 = some q → (Sum.elim (fun e : (Int → Int) => good 105 [.inr 1000, .inr 1000, .inr 1000, .inr 1000, .inr 1000, .inr 1000, .inr 1000, .inr 1000, .inr 1000] [] [.inr 2, .inr 4] [e, g1, g2]) (fun w : Int × (Int → Int) => w = o) q) → good 16 [.inr 0, .inr 1000, .inl x2, .inl x3, .inl x4, .inl x5, .inl x6, .inl x7, .inr 1000] [] [.inr 2, .inr 4] [g0, g1, g2] := by
    intro n
    induction n with
    | zero => intro x2 x3 x4 x5 x6 x7 g0 q h; exact absurd (show none = some q from h) (fun h => by cases h)
    | succ n ih =>
      intro x2 x3 x4 x5 x6 x7 g0 q h hK
      replace h : zf_Matcher_narrow_l0_b x2 x3 x4 x5 x6 g1 g2 (zf_Matcher_narrow_l0 x2 x3 x4 x5 x6 g1 g2 n) x7 g0 = some q := h
      unfold zf_Matcher_narrow_l0_b at h
      refine zv_ild hB zd117_16 rfl rfl ?_
      refine zv_con hB zd117_18 rfl ?_
      refine zv_cge hB zd117_20 rfl (fun hc1 => ?_) (fun hc1 => ?_)
      · rw [if_neg (Int.not_lt.mpr hc1)] at h
        have hq := Option.some.inj h
        subst hq
        refine zv_wk hB (L' := [.inr 1000, .inr 1000, .inr 1000, .inr 1000, .inr 1000, .inr 1000, .inr 1000, .inr 1000, .inr 1000]) (F' := [.inr 2, .inr 4]) ⟨fun (h : zv_is (.inr 1000)) => (Nat.lt_irrefl 1000 h).elim, fun (h : zv_is (.inr 1000)) => (Nat.lt_irrefl 1000 h).elim, fun (h : zv_is (.inr 1000)) => (Nat.lt_irrefl 1000 h).elim, fun (h : zv_is (.inr 1000)) => (Nat.lt_irrefl 1000 h).elim, fun (h : zv_is (.inr 1000)) => (Nat.lt_irrefl 1000 h).elim, fun (h : zv_is (.inr 1000)) => (Nat.lt_irrefl 1000 h).elim, fun (h : zv_is (.inr 1000)) => (Nat.lt_irrefl 1000 h).elim, fun (h : zv_is (.inr 1000)) => (Nat.lt_irrefl 1000 h).elim, fun (h : zv_is (.inr 1000)) => (Nat.lt_irrefl 1000 h).elim, trivial⟩ ⟨fun _ => rfl, fun _ => rfl, trivial⟩ ?_
        exact hK
      · rw [if_pos hc1] at h
        refine zv_ild hB zd117_23 rfl rfl ?_
        refine zv_ild hB zd117_24 rfl rfl ?_
        refine zv_shrw hB zd117_26 ?_
        refine zv_con hB zd117_27 rfl ?_
        refine zv_andw hB zd117_28 ?_
        refine zv_zeq hB zd117_29 rfl (fun hc2 => ?_) (fun hc2 => ?_)
        · rw [if_pos hc2] at h
          refine zv_iincw hB zd117_99 rfl rfl ?_
          refine zv_goto hB zd117_102 rfl ?_
          exact ih _ _ _ _ _ _ _ q h hK
        · rw [if_neg hc2] at h
          refine zv_ald hB zd117_32 rfl rfl rfl ?_
          refine zv_getr hB zd117_33 rfl ?_
          refine zv_ild hB zd117_36 rfl rfl ?_
          refine zv_ild hB zd117_38 rfl rfl ?_
          refine zv_addw hB zd117_40 ?_
          obtain ⟨c3, h⟩ := zi_if h
          refine zv_iald hB zd117_41 rfl rfl (zi_ix_ok c3).1 (zi_ix_ok c3).2 (fun _ _ => ?_)
          refine zv_con hB zd117_42 rfl ?_
          refine zv_ild hB zd117_43 rfl rfl ?_
          refine zv_shlw hB zd117_45 ?_
          refine zv_con hB zd117_46 rfl ?_
          refine zv_xorw hB zd117_47 ?_
          refine zv_andw hB zd117_48 ?_
          refine zv_ist hB zd117_49 rfl rfl rfl ?_
          refine zv_ald hB zd117_51 rfl rfl rfl ?_
          refine zv_getq hB zd117_52 rfl rfl rfl ?_
          refine zv_getr hB zd117_55 rfl ?_
          refine zv_ild hB zd117_58 rfl rfl ?_
          obtain ⟨c4, h⟩ := zi_if h
          refine zv_iald hB zd117_59 rfl rfl (zi_ix_ok c4).1 (zi_ix_ok c4).2 (fun _ _ => ?_)
          refine zv_ild hB zd117_60 rfl rfl ?_
          refine zv_shrw hB zd117_62 ?_
          refine zv_con hB zd117_63 rfl ?_
          refine zv_andw hB zd117_64 ?_
          refine zv_zeq hB zd117_65 rfl (fun hc5 => ?_) (fun hc5 => ?_)
          · rw [if_pos hc5] at h
            refine zv_ild hB zd117_80 rfl rfl ?_
            refine zv_zne hB zd117_82 rfl (fun hc6 => ?_) (fun hc6 => ?_)
            · rw [if_neg hc6] at h
              refine zv_ald hB zd117_87 rfl rfl rfl ?_
              refine zv_getr hB zd117_88 rfl ?_
              refine zv_ild hB zd117_91 rfl rfl ?_
              refine zv_ild hB zd117_93 rfl rfl ?_
              refine zv_addw hB zd117_95 ?_
              refine zv_ild hB zd117_96 rfl rfl ?_
              obtain ⟨c7, h⟩ := zi_if h
              refine zv_iast hB zd117_98 rfl rfl (zi_ix_ok c7).1 (zi_ix_ok c7).2 ?_
              refine zv_iincw hB zd117_99 rfl rfl ?_
              refine zv_goto hB zd117_102 rfl ?_
              refine zv_wk hB (L' := [.inr 0, .inr 1000, .inl x2, .inl x3, .inl x4, .inl x5, .inl x6, .inl (zi_w (x7 + 1)), .inr 1000]) (F' := [.inr 2, .inr 4]) ⟨fun _ => rfl, fun (h : zv_is (.inr 1000)) => (Nat.lt_irrefl 1000 h).elim, fun _ => rfl, fun _ => rfl, fun _ => rfl, fun _ => rfl, fun _ => rfl, fun _ => rfl, fun (h : zv_is (.inr 1000)) => (Nat.lt_irrefl 1000 h).elim, trivial⟩ ⟨fun _ => rfl, fun _ => rfl, trivial⟩ ?_
              exact ih _ _ _ _ _ _ _ q h hK
            · rw [if_pos hc6] at h
              refine zv_con hB zd117_85 rfl ?_
              have hw : (0, g0) = o := zi_rk (Option.some.inj h) hK
              subst hw
              exact hret _ _ _ _ _ zd117_86 (by constructor <;> decide) ⟨rfl, rfl, rfl⟩
          · rw [if_neg hc5] at h
            refine zv_ild hB zd117_68 rfl rfl ?_
            refine zv_ald hB zd117_70 rfl rfl rfl ?_
            refine zv_getq hB zd117_71 rfl rfl rfl ?_
            refine zv_ild hB zd117_74 rfl rfl ?_
            obtain ⟨c8, h⟩ := zi_if h
            refine zv_iald hB zd117_76 rfl rfl (zi_ix_ok c8).1 (zi_ix_ok c8).2 (fun _ _ => ?_)
            refine zv_andw hB zd117_77 ?_
            refine zv_ist hB zd117_78 rfl rfl rfl ?_
            refine zv_ild hB zd117_80 rfl rfl ?_
            refine zv_zne hB zd117_82 rfl (fun hc9 => ?_) (fun hc9 => ?_)
            · rw [if_neg hc9] at h
              refine zv_ald hB zd117_87 rfl rfl rfl ?_
              refine zv_getr hB zd117_88 rfl ?_
              refine zv_ild hB zd117_91 rfl rfl ?_
              refine zv_ild hB zd117_93 rfl rfl ?_
              refine zv_addw hB zd117_95 ?_
              refine zv_ild hB zd117_96 rfl rfl ?_
              obtain ⟨c10, h⟩ := zi_if h
              refine zv_iast hB zd117_98 rfl rfl (zi_ix_ok c10).1 (zi_ix_ok c10).2 ?_
              refine zv_iincw hB zd117_99 rfl rfl ?_
              refine zv_goto hB zd117_102 rfl ?_
              refine zv_wk hB (L' := [.inr 0, .inr 1000, .inl x2, .inl x3, .inl x4, .inl x5, .inl x6, .inl (zi_w (x7 + 1)), .inr 1000]) (F' := [.inr 2, .inr 4]) ⟨fun _ => rfl, fun (h : zv_is (.inr 1000)) => (Nat.lt_irrefl 1000 h).elim, fun _ => rfl, fun _ => rfl, fun _ => rfl, fun _ => rfl, fun _ => rfl, fun _ => rfl, fun (h : zv_is (.inr 1000)) => (Nat.lt_irrefl 1000 h).elim, trivial⟩ ⟨fun _ => rfl, fun _ => rfl, trivial⟩ ?_
              exact ih _ _ _ _ _ _ _ q h hK
            · rw [if_pos hc9] at h
              refine zv_con hB zd117_85 rfl ?_
              have hw : (0, g0) = o := zi_rk (Option.some.inj h) hK
              subst hw
              exact hret _ _ _ _ _ zd117_86 (by constructor <;> decide) ⟨rfl, rfl, rfl⟩
  unfold zf_Matcher_narrow at h
  refine zv_ild hB zd117_0 rfl rfl ?_
  refine zv_con hB zd117_1 rfl ?_
  refine zv_mulw hB zd117_3 ?_
  refine zv_ist hB zd117_4 rfl rfl rfl ?_
  refine zv_ild hB zd117_6 rfl rfl ?_
  refine zv_con hB zd117_8 rfl ?_
  refine zv_addw hB zd117_10 ?_
  refine zv_ist hB zd117_11 rfl rfl rfl ?_
  refine zv_con hB zd117_13 rfl ?_
  refine zv_ist hB zd117_14 rfl rfl rfl ?_
  obtain ⟨q11, hq11, h⟩ := zi_bind h
  refine zv_wk hB (L' := [.inr 0, .inr 1000, .inl x2, .inl x3, .inl x4, .inl (zi_w (x1 * 8)), .inl (zi_w ((zi_w (x1 * 8)) + 8)), .inl 0, .inr 1000]) (F' := [.inr 2, .inr 4]) ⟨fun _ => rfl, fun (h : zv_is (.inr 1000)) => (Nat.lt_irrefl 1000 h).elim, fun _ => rfl, fun _ => rfl, fun _ => rfl, fun _ => rfl, fun _ => rfl, fun _ => rfl, fun (h : zv_is (.inr 1000)) => (Nat.lt_irrefl 1000 h).elim, trivial⟩ ⟨fun _ => rfl, fun _ => rfl, trivial⟩ ?_
  refine l0 _ _ _ _ _ _ _ _ q11 hq11 ?_
  rcases q11 with e12 | w13
  · replace h := zi_sl h
    show good 105 [.inr 1000, .inr 1000, .inr 1000, .inr 1000, .inr 1000, .inr 1000, .inr 1000, .inr 1000, .inr 1000] [] [.inr 2, .inr 4] [e12, g1, g2]
    refine zv_con hB zd117_105 rfl ?_
    have hw := Option.some.inj h
    subst hw
    exact hret _ _ _ _ _ zd117_106 (by constructor <;> decide) ⟨rfl, rfl, rfl⟩
  · exact Option.some.inj h
/-! Matcher_besides (I)I -/
-- names: 0 Matcher('arg', 0), 1 (0, 24)(0, 8, 4)
-- fields: f0 = 0.joined_; arrays: g0 = 1; out: [('ret', None)]
abbrev zy_Matcher_besides : zNL := (2, [(0, 8)], [(0, 8, 4, 0)], [], [(1, 0, 24, 0)])
theorem zyw_Matcher_besides : zv_wf zy_Matcher_besides = true := by decide +kernel
theorem zye_Matcher_besides : zv_ek2 zy_Matcher_besides = true := by decide +kernel
def zf_Matcher_besides_l0_b (x1 : Int) (g0 : (Int → Int)) (rec : Int → Int → Option (Int)) (x2 : Int) (x3 : Int) : Option (Int) := if x3 < 24 then (if (zi_and (zi_shr x1 x3) 1) = 0 then (rec x2 (zi_w (x3 + 1))) else (cond (zi_ix x3 24) (rec (zi_or x2 (g0 x3)) (zi_w (x3 + 1))) none)) else (some x2)
def zf_Matcher_besides_l0 (x1 : Int) (g0 : (Int → Int)) : Nat → Int → Int → Option (Int)
  | 0, _, _ => none
  | n + 1, x2, x3 => zf_Matcher_besides_l0_b x1 g0 (zf_Matcher_besides_l0 x1 g0 n) x2 x3
def zf_Matcher_besides (x1 : Int) (g0 : (Int → Int)) : Option (Int) := (zf_Matcher_besides_l0 x1 g0 zi_fu 0 0).bind fun q4 => (some q4)
theorem zd119_0 : decode zxm119.2.1 0 = .ok (.iconst 0, 1) := by decide +kernel
theorem zd119_1 : decode zxm119.2.1 1 = .ok (.istore_n 2, 1) := by decide +kernel
theorem zd119_2 : decode zxm119.2.1 2 = .ok (.iconst 0, 1) := by decide +kernel
theorem zd119_3 : decode zxm119.2.1 3 = .ok (.istore_n 3, 1) := by decide +kernel
theorem zd119_4 : decode zxm119.2.1 4 = .ok (.iload_n 3, 1) := by decide +kernel
theorem zd119_5 : decode zxm119.2.1 5 = .ok (.bipush 24, 2) := by decide +kernel
theorem zd119_7 : decode zxm119.2.1 7 = .ok (.if_icmp .ge 26, 3) := by decide +kernel
theorem zd119_10 : decode zxm119.2.1 10 = .ok (.iload_n 1, 1) := by decide +kernel
theorem zd119_11 : decode zxm119.2.1 11 = .ok (.iload_n 3, 1) := by decide +kernel
theorem zd119_12 : decode zxm119.2.1 12 = .ok (.ishr, 1) := by decide +kernel
theorem zd119_13 : decode zxm119.2.1 13 = .ok (.iconst 1, 1) := by decide +kernel
theorem zd119_14 : decode zxm119.2.1 14 = .ok (.iand, 1) := by decide +kernel
theorem zd119_15 : decode zxm119.2.1 15 = .ok (.ifCond .eq 12, 3) := by decide +kernel
theorem zd119_18 : decode zxm119.2.1 18 = .ok (.iload_n 2, 1) := by decide +kernel
theorem zd119_19 : decode zxm119.2.1 19 = .ok (.aload_n 0, 1) := by decide +kernel
theorem zd119_20 : decode zxm119.2.1 20 = .ok (.getfield 34, 3) := by decide +kernel
theorem zd119_23 : decode zxm119.2.1 23 = .ok (.iload_n 3, 1) := by decide +kernel
theorem zd119_24 : decode zxm119.2.1 24 = .ok (.iaload, 1) := by decide +kernel
theorem zd119_25 : decode zxm119.2.1 25 = .ok (.ior, 1) := by decide +kernel
theorem zd119_26 : decode zxm119.2.1 26 = .ok (.istore_n 2, 1) := by decide +kernel
theorem zd119_27 : decode zxm119.2.1 27 = .ok (.iinc 3 1, 3) := by decide +kernel
theorem zd119_30 : decode zxm119.2.1 30 = .ok (.goto (-26), 3) := by decide +kernel
theorem zd119_33 : decode zxm119.2.1 33 = .ok (.iload_n 2, 1) := by decide +kernel
theorem zd119_34 : decode zxm119.2.1 34 = .ok (.ireturn, 1) := by decide +kernel
theorem zt_Matcher_besides {x1 : Int} {g0 : (Int → Int)} {o : Int} (h : zf_Matcher_besides x1 g0 = some o) : zv_Fn z_TB z_cl z_KX zy_Matcher_besides zxm119 (0, 0) [.inr 0, .inl x1] [.inr 1] [g0] (some o) [.inr 1] [g0] := zv_meth (K := (z_KF4, z_KC4, z_KL4, z_KT4, [], [], [], none)) (FT := z_FT) (MT := z_MT) (n := 2) zxp119 (z_ks4 _ (fun _ h => List.mem_cons_of_mem _ h) _ _ _ _ (fun j r h _ => by cases h)) (fun _ _ => zs_KX_p) zyw_Matcher_besides (fun va F G h => by obtain ⟨rfl, _⟩ := h; rfl) (fun va F G h => by obtain ⟨rfl, _⟩ := h; rfl) rfl fun good va F G hB hret hvret hP => by
  obtain ⟨rfl, rfl, rfl⟩ := hP
  have l0 : ∀ (n : Nat) (x1 : Int) (x2 : Int) (x3 : Int) (q : Int), zf_Matcher_besides_l0 x1 g0 n x2 x3 = some q → (good 33 [.inr 1000, .inr 1000, .inl q, .inr 1000] [] [.inr 1] [g0]) → good 4 [.inr 0, .inl x1, .inl x2, .inl x3] [] [.inr 1] [g0] := by
    intro n
    induction n with
    | zero => intro x1 x2 x3 q h; exact absurd (show none = some q from h) (fun h => by cases h)
    | succ n ih =>
      intro x1 x2 x3 q h hK
      replace h : zf_Matcher_besides_l0_b x1 g0 (zf_Matcher_besides_l0 x1 g0 n) x2 x3 = some q := h
      unfold zf_Matcher_besides_l0_b at h
      refine zv_ild hB zd119_4 rfl rfl ?_
      refine zv_con hB zd119_5 rfl ?_
      refine zv_cge hB zd119_7 rfl (fun hc1 => ?_) (fun hc1 => ?_)
      · rw [if_neg (Int.not_lt.mpr hc1)] at h
        have hq := Option.some.inj h
        subst hq
        refine zv_wk hB (L' := [.inr 1000, .inr 1000, .inl x2, .inr 1000]) (F' := [.inr 1]) ⟨fun (h : zv_is (.inr 1000)) => (Nat.lt_irrefl 1000 h).elim, fun (h : zv_is (.inr 1000)) => (Nat.lt_irrefl 1000 h).elim, fun _ => rfl, fun (h : zv_is (.inr 1000)) => (Nat.lt_irrefl 1000 h).elim, trivial⟩ ⟨fun _ => rfl, trivial⟩ ?_
        exact hK
      · rw [if_pos hc1] at h
        refine zv_ild hB zd119_10 rfl rfl ?_
        refine zv_ild hB zd119_11 rfl rfl ?_
        refine zv_shrw hB zd119_12 ?_
        refine zv_con hB zd119_13 rfl ?_
        refine zv_andw hB zd119_14 ?_
        refine zv_zeq hB zd119_15 rfl (fun hc2 => ?_) (fun hc2 => ?_)
        · rw [if_pos hc2] at h
          refine zv_iincw hB zd119_27 rfl rfl ?_
          refine zv_goto hB zd119_30 rfl ?_
          exact ih _ _ _ q h hK
        · rw [if_neg hc2] at h
          refine zv_ild hB zd119_18 rfl rfl ?_
          refine zv_ald hB zd119_19 rfl rfl rfl ?_
          refine zv_getq hB zd119_20 rfl rfl rfl ?_
          refine zv_ild hB zd119_23 rfl rfl ?_
          obtain ⟨c3, h⟩ := zi_if h
          refine zv_iald hB zd119_24 rfl rfl (zi_ix_ok c3).1 (zi_ix_ok c3).2 (fun _ _ => ?_)
          refine zv_orw hB zd119_25 ?_
          refine zv_ist hB zd119_26 rfl rfl rfl ?_
          refine zv_iincw hB zd119_27 rfl rfl ?_
          refine zv_goto hB zd119_30 rfl ?_
          exact ih _ _ _ q h hK
  unfold zf_Matcher_besides at h
  refine zv_con hB zd119_0 rfl ?_
  refine zv_ist hB zd119_1 rfl rfl rfl ?_
  refine zv_con hB zd119_2 rfl ?_
  refine zv_ist hB zd119_3 rfl rfl rfl ?_
  obtain ⟨q4, hq4, h⟩ := zi_bind h
  refine l0 _ _ _ _ q4 hq4 ?_
  show good 33 [.inr 1000, .inr 1000, .inl q4, .inr 1000] [] [.inr 1] [g0]
  refine zv_ild hB zd119_33 rfl rfl ?_
  have hw := Option.some.inj h
  subst hw
  exact hret _ _ _ _ _ zd119_34 (by trivial) ⟨rfl, rfl, rfl⟩
/-! Matcher_agree (II)Z -/
-- names: 0 Matcher('arg', 0), 1 Tale(0, 8, 3), 2 (0, 8)(1, 6, 2), 3 (0, 72)(0, 8, 0), 4 (0, 24)(0, 8, 4)
-- fields: f0 = 0.tale_, f1 = 0.joined_; arrays: g0 = 2, g1 = 3, g2 = 4; out: [('ret', None), ('g', 1)]
abbrev zy_Matcher_agree : zNL := (5, [(0, 8), (1, 6)], [(0, 8, 3, 0), (0, 8, 4, 1)], [(1, 6, 2, 2), (0, 8, 0, 3)], [(2, 0, 8, 0), (3, 0, 72, 1), (4, 0, 24, 2)])
theorem zyw_Matcher_agree : zv_wf zy_Matcher_agree = true := by decide +kernel
theorem zye_Matcher_agree : zv_ek2 zy_Matcher_agree = true := by decide +kernel
def zf_Matcher_agree_l2_b (x3 : Int) (x7 : Int) (g1 : (Int → Int)) (g2 : (Int → Int)) (rec : Int → Int → Option (Int)) (x8 : Int) (x9 : Int) : Option (Int) := if x9 < 8 then (if (zi_and (zi_shr x7 x9) 1) = 0 then (rec x8 (zi_w (x9 + 1))) else (cond (zi_ix (zi_w (x3 + x9)) 72) ((zf_Matcher_besides (g1 (zi_w (x3 + x9))) g2).bind fun r10 => (rec (zi_and x8 r10) (zi_w (x9 + 1)))) none)) else (some x8)
def zf_Matcher_agree_l2 (x3 : Int) (x7 : Int) (g1 : (Int → Int)) (g2 : (Int → Int)) : Nat → Int → Int → Option (Int)
  | 0, _, _ => none
  | n + 1, x8, x9 => zf_Matcher_agree_l2_b x3 x7 g1 g2 (zf_Matcher_agree_l2 x3 x7 g1 g2 n) x8 x9
def zf_Matcher_agree_l1_b (x2 : Int) (x3 : Int) (g0 : (Int → Int)) (g2 : (Int → Int)) (rec : Int → Int → (Int → Int) → Option (((Int × (Int → Int)) ⊕ (Int × (Int → Int))))) (x4 : Int) (x6 : Int) (g1 : (Int → Int)) : Option (((Int × (Int → Int)) ⊕ (Int × (Int → Int)))) := if x6 < 8 then (if (zi_and (zi_shr x2 x6) 1) = 0 then (cond (zi_ix (zi_w (x3 + x6)) 72) ((zf_Matcher_agree_l2 x3 0 g1 g2 zi_fu (g1 (zi_w (x3 + x6))) 0).bind fun q19 => (if x4 = 0 then (if q19 = (g1 (zi_w (x3 + x6))) then (rec 0 (zi_w (x6 + 1)) (zv_up g1 (zi_w (x3 + x6)) q19)) else (rec 1 (zi_w (x6 + 1)) (zv_up g1 (zi_w (x3 + x6)) q19))) else (rec 1 (zi_w (x6 + 1)) (zv_up g1 (zi_w (x3 + x6)) q19)))) none) else (cond (zi_ix x6 8) (cond (zi_ix (zi_w (x3 + x6)) 72) ((zf_Matcher_agree_l2 x3 (zi_and (g0 x6) x2) g1 g2 zi_fu (g1 (zi_w (x3 + x6))) 0).bind fun q11 => (if (zi_and (g0 x6) x2) = 0 then (if x4 = 0 then (if q11 = (g1 (zi_w (x3 + x6))) then (rec 0 (zi_w (x6 + 1)) (zv_up g1 (zi_w (x3 + x6)) q11)) else (rec 1 (zi_w (x6 + 1)) (zv_up g1 (zi_w (x3 + x6)) q11))) else (rec 1 (zi_w (x6 + 1)) (zv_up g1 (zi_w (x3 + x6)) q11))) else (if q11 = 0 then (some (.inr (0, g1))) else (if x4 = 0 then (if q11 = (g1 (zi_w (x3 + x6))) then (rec 0 (zi_w (x6 + 1)) (zv_up g1 (zi_w (x3 + x6)) q11)) else (rec 1 (zi_w (x6 + 1)) (zv_up g1 (zi_w (x3 + x6)) q11))) else (rec 1 (zi_w (x6 + 1)) (zv_up g1 (zi_w (x3 + x6)) q11)))))) none) none)) else (some (.inl (x4, g1)))
def zf_Matcher_agree_l1 (x2 : Int) (x3 : Int) (g0 : (Int → Int)) (g2 : (Int → Int)) : Nat → Int → Int → (Int → Int) → Option (((Int × (Int → Int)) ⊕ (Int × (Int → Int))))
  | 0, _, _, _ => none
  | n + 1, x4, x6, g1 => zf_Matcher_agree_l1_b x2 x3 g0 g2 (zf_Matcher_agree_l1 x2 x3 g0 g2 n) x4 x6 g1
def zf_Matcher_agree_l0_b (x2 : Int) (x3 : Int) (g0 : (Int → Int)) (g2 : (Int → Int)) (rec : Int → Int → (Int → Int) → Option ((((Int → Int)) ⊕ (Int × (Int → Int))))) (x4 : Int) (x5 : Int) (g1 : (Int → Int)) : Option ((((Int → Int)) ⊕ (Int × (Int → Int)))) := if x5 < 192 then (if x4 = 0 then (some (.inl g1)) else ((zf_Matcher_agree_l1 x2 x3 g0 g2 zi_fu 0 0 g1).bind fun q23 => Sum.elim (fun e24 => (rec e24.1 (zi_w (x5 + 1)) e24.2)) (fun w25 => some (.inr w25)) q23)) else (some (.inl g1))
def zf_Matcher_agree_l0 (x2 : Int) (x3 : Int) (g0 : (Int → Int)) (g2 : (Int → Int)) : Nat → Int → Int → (Int → Int) → Option ((((Int → Int)) ⊕ (Int × (Int → Int))))
  | 0, _, _, _ => none
  | n + 1, x4, x5, g1 => zf_Matcher_agree_l0_b x2 x3 g0 g2 (zf_Matcher_agree_l0 x2 x3 g0 g2 n) x4 x5 g1
def zf_Matcher_agree (x1 : Int) (x2 : Int) (g0 : (Int → Int)) (g1 : (Int → Int)) (g2 : (Int → Int)) : Option (Int × (Int → Int)) := (zf_Matcher_agree_l0 x2 (zi_w (x1 * 8)) g0 g2 zi_fu 1 0 g1).bind fun q26 => Sum.elim (fun e27 => (some (1, e27))) (fun w28 => some w28) q26
theorem zd118_0 : decode zxm118.2.1 0 = .ok (.iload_n 1, 1) := by decide +kernel
theorem zd118_1 : decode zxm118.2.1 1 = .ok (.bipush 8, 2) := by decide +kernel
theorem zd118_3 : decode zxm118.2.1 3 = .ok (.imul, 1) := by decide +kernel
theorem zd118_4 : decode zxm118.2.1 4 = .ok (.istore_n 3, 1) := by decide +kernel
theorem zd118_5 : decode zxm118.2.1 5 = .ok (.iconst 1, 1) := by decide +kernel
theorem zd118_6 : decode zxm118.2.1 6 = .ok (.istore 4, 2) := by decide +kernel
theorem zd118_8 : decode zxm118.2.1 8 = .ok (.iconst 0, 1) := by decide +kernel
theorem zd118_9 : decode zxm118.2.1 9 = .ok (.istore 5, 2) := by decide +kernel
theorem zd118_11 : decode zxm118.2.1 11 = .ok (.iload 5, 2) := by decide +kernel
theorem zd118_13 : decode zxm118.2.1 13 = .ok (.sipush 192, 3) := by decide +kernel
theorem zd118_16 : decode zxm118.2.1 16 = .ok (.if_icmp .ge 164, 3) := by decide +kernel
theorem zd118_19 : decode zxm118.2.1 19 = .ok (.iload 4, 2) := by decide +kernel
theorem zd118_21 : decode zxm118.2.1 21 = .ok (.ifCond .eq 159, 3) := by decide +kernel
theorem zd118_24 : decode zxm118.2.1 24 = .ok (.iconst 0, 1) := by decide +kernel
theorem zd118_25 : decode zxm118.2.1 25 = .ok (.istore 4, 2) := by decide +kernel
theorem zd118_27 : decode zxm118.2.1 27 = .ok (.iconst 0, 1) := by decide +kernel
theorem zd118_28 : decode zxm118.2.1 28 = .ok (.istore 6, 2) := by decide +kernel
theorem zd118_30 : decode zxm118.2.1 30 = .ok (.iload 6, 2) := by decide +kernel
theorem zd118_32 : decode zxm118.2.1 32 = .ok (.bipush 8, 2) := by decide +kernel
theorem zd118_34 : decode zxm118.2.1 34 = .ok (.if_icmp .ge 140, 3) := by decide +kernel
theorem zd118_37 : decode zxm118.2.1 37 = .ok (.iload_n 2, 1) := by decide +kernel
theorem zd118_38 : decode zxm118.2.1 38 = .ok (.iload 6, 2) := by decide +kernel
theorem zd118_40 : decode zxm118.2.1 40 = .ok (.ishr, 1) := by decide +kernel
theorem zd118_41 : decode zxm118.2.1 41 = .ok (.iconst 1, 1) := by decide +kernel
theorem zd118_42 : decode zxm118.2.1 42 = .ok (.iand, 1) := by decide +kernel
theorem zd118_43 : decode zxm118.2.1 43 = .ok (.ifCond .ne 7, 3) := by decide +kernel
theorem zd118_46 : decode zxm118.2.1 46 = .ok (.iconst 0, 1) := by decide +kernel
theorem zd118_47 : decode zxm118.2.1 47 = .ok (.goto 15, 3) := by decide +kernel
theorem zd118_50 : decode zxm118.2.1 50 = .ok (.aload_n 0, 1) := by decide +kernel
theorem zd118_51 : decode zxm118.2.1 51 = .ok (.getfield 30, 3) := by decide +kernel
theorem zd118_54 : decode zxm118.2.1 54 = .ok (.getfield 52, 3) := by decide +kernel
theorem zd118_57 : decode zxm118.2.1 57 = .ok (.iload 6, 2) := by decide +kernel
theorem zd118_59 : decode zxm118.2.1 59 = .ok (.iaload, 1) := by decide +kernel
theorem zd118_60 : decode zxm118.2.1 60 = .ok (.iload_n 2, 1) := by decide +kernel
theorem zd118_61 : decode zxm118.2.1 61 = .ok (.iand, 1) := by decide +kernel
theorem zd118_62 : decode zxm118.2.1 62 = .ok (.istore 7, 2) := by decide +kernel
theorem zd118_64 : decode zxm118.2.1 64 = .ok (.aload_n 0, 1) := by decide +kernel
theorem zd118_65 : decode zxm118.2.1 65 = .ok (.getfield 11, 3) := by decide +kernel
theorem zd118_68 : decode zxm118.2.1 68 = .ok (.iload_n 3, 1) := by decide +kernel
theorem zd118_69 : decode zxm118.2.1 69 = .ok (.iload 6, 2) := by decide +kernel
theorem zd118_71 : decode zxm118.2.1 71 = .ok (.iadd, 1) := by decide +kernel
theorem zd118_72 : decode zxm118.2.1 72 = .ok (.iaload, 1) := by decide +kernel
theorem zd118_73 : decode zxm118.2.1 73 = .ok (.istore 8, 2) := by decide +kernel
theorem zd118_75 : decode zxm118.2.1 75 = .ok (.iconst 0, 1) := by decide +kernel
theorem zd118_76 : decode zxm118.2.1 76 = .ok (.istore 9, 2) := by decide +kernel
theorem zd118_78 : decode zxm118.2.1 78 = .ok (.iload 9, 2) := by decide +kernel
theorem zd118_80 : decode zxm118.2.1 80 = .ok (.bipush 8, 2) := by decide +kernel
theorem zd118_82 : decode zxm118.2.1 82 = .ok (.if_icmp .ge 37, 3) := by decide +kernel
theorem zd118_85 : decode zxm118.2.1 85 = .ok (.iload 7, 2) := by decide +kernel
theorem zd118_87 : decode zxm118.2.1 87 = .ok (.iload 9, 2) := by decide +kernel
theorem zd118_89 : decode zxm118.2.1 89 = .ok (.ishr, 1) := by decide +kernel
theorem zd118_90 : decode zxm118.2.1 90 = .ok (.iconst 1, 1) := by decide +kernel
theorem zd118_91 : decode zxm118.2.1 91 = .ok (.iand, 1) := by decide +kernel
theorem zd118_92 : decode zxm118.2.1 92 = .ok (.ifCond .eq 21, 3) := by decide +kernel
theorem zd118_95 : decode zxm118.2.1 95 = .ok (.iload 8, 2) := by decide +kernel
theorem zd118_97 : decode zxm118.2.1 97 = .ok (.aload_n 0, 1) := by decide +kernel
theorem zd118_98 : decode zxm118.2.1 98 = .ok (.aload_n 0, 1) := by decide +kernel
theorem zd118_99 : decode zxm118.2.1 99 = .ok (.getfield 11, 3) := by decide +kernel
theorem zd118_102 : decode zxm118.2.1 102 = .ok (.iload_n 3, 1) := by decide +kernel
theorem zd118_103 : decode zxm118.2.1 103 = .ok (.iload 9, 2) := by decide +kernel
theorem zd118_105 : decode zxm118.2.1 105 = .ok (.iadd, 1) := by decide +kernel
theorem zd118_106 : decode zxm118.2.1 106 = .ok (.iaload, 1) := by decide +kernel
theorem zd118_107 : decode zxm118.2.1 107 = .ok (.invokevirtual 81, 3) := by decide +kernel
theorem zd118_110 : decode zxm118.2.1 110 = .ok (.iand, 1) := by decide +kernel
theorem zd118_111 : decode zxm118.2.1 111 = .ok (.istore 8, 2) := by decide +kernel
theorem zd118_113 : decode zxm118.2.1 113 = .ok (.iinc 9 1, 3) := by decide +kernel
theorem zd118_116 : decode zxm118.2.1 116 = .ok (.goto (-38), 3) := by decide +kernel
theorem zd118_119 : decode zxm118.2.1 119 = .ok (.iload 7, 2) := by decide +kernel
theorem zd118_121 : decode zxm118.2.1 121 = .ok (.ifCond .eq 10, 3) := by decide +kernel
theorem zd118_124 : decode zxm118.2.1 124 = .ok (.iload 8, 2) := by decide +kernel
theorem zd118_126 : decode zxm118.2.1 126 = .ok (.ifCond .ne 5, 3) := by decide +kernel
theorem zd118_129 : decode zxm118.2.1 129 = .ok (.iconst 0, 1) := by decide +kernel
theorem zd118_130 : decode zxm118.2.1 130 = .ok (.ireturn, 1) := by decide +kernel
theorem zd118_131 : decode zxm118.2.1 131 = .ok (.iload 4, 2) := by decide +kernel
theorem zd118_133 : decode zxm118.2.1 133 = .ok (.ifCond .ne 17, 3) := by decide +kernel
theorem zd118_136 : decode zxm118.2.1 136 = .ok (.iload 8, 2) := by decide +kernel
theorem zd118_138 : decode zxm118.2.1 138 = .ok (.aload_n 0, 1) := by decide +kernel
theorem zd118_139 : decode zxm118.2.1 139 = .ok (.getfield 11, 3) := by decide +kernel
theorem zd118_142 : decode zxm118.2.1 142 = .ok (.iload_n 3, 1) := by decide +kernel
theorem zd118_143 : decode zxm118.2.1 143 = .ok (.iload 6, 2) := by decide +kernel
theorem zd118_145 : decode zxm118.2.1 145 = .ok (.iadd, 1) := by decide +kernel
theorem zd118_146 : decode zxm118.2.1 146 = .ok (.iaload, 1) := by decide +kernel
theorem zd118_147 : decode zxm118.2.1 147 = .ok (.if_icmp .eq 7, 3) := by decide +kernel
theorem zd118_150 : decode zxm118.2.1 150 = .ok (.iconst 1, 1) := by decide +kernel
theorem zd118_151 : decode zxm118.2.1 151 = .ok (.goto 4, 3) := by decide +kernel
theorem zd118_154 : decode zxm118.2.1 154 = .ok (.iconst 0, 1) := by decide +kernel
theorem zd118_155 : decode zxm118.2.1 155 = .ok (.istore 4, 2) := by decide +kernel
theorem zd118_157 : decode zxm118.2.1 157 = .ok (.aload_n 0, 1) := by decide +kernel
theorem zd118_158 : decode zxm118.2.1 158 = .ok (.getfield 11, 3) := by decide +kernel
theorem zd118_161 : decode zxm118.2.1 161 = .ok (.iload_n 3, 1) := by decide +kernel
theorem zd118_162 : decode zxm118.2.1 162 = .ok (.iload 6, 2) := by decide +kernel
theorem zd118_164 : decode zxm118.2.1 164 = .ok (.iadd, 1) := by decide +kernel
theorem zd118_165 : decode zxm118.2.1 165 = .ok (.iload 8, 2) := by decide +kernel
theorem zd118_167 : decode zxm118.2.1 167 = .ok (.iastore, 1) := by decide +kernel
theorem zd118_168 : decode zxm118.2.1 168 = .ok (.iinc 6 1, 3) := by decide +kernel
theorem zd118_171 : decode zxm118.2.1 171 = .ok (.goto (-141), 3) := by decide +kernel
theorem zd118_174 : decode zxm118.2.1 174 = .ok (.iinc 5 1, 3) := by decide +kernel
theorem zd118_177 : decode zxm118.2.1 177 = .ok (.goto (-166), 3) := by decide +kernel
theorem zd118_180 : decode zxm118.2.1 180 = .ok (.iconst 1, 1) := by decide +kernel
theorem zd118_181 : decode zxm118.2.1 181 = .ok (.ireturn, 1) := by decide +kernel
theorem zt_Matcher_agree {x1 : Int} {x2 : Int} {g0 : (Int → Int)} {g1 : (Int → Int)} {g2 : (Int → Int)} {o : Int × (Int → Int)} (h : zf_Matcher_agree x1 x2 g0 g1 g2 = some o) : zv_Fn z_TB z_cl z_KX zy_Matcher_agree zxm118 (1, 60) [.inr 0, .inl x1, .inl x2] [.inr 1, .inr 4] [g0, g1, g2] (some o.1) [.inr 1, .inr 4] [g0, o.2, g2] := zv_meth (K := (z_KF4, z_KC4, z_KL4, z_KT4, [], [], [], none)) (FT := z_FT) (MT := z_MT) (n := 3) zxp118 (z_ks4 _ (fun _ h => List.mem_cons_of_mem _ h) _ _ _ _ (fun j r h _ => by cases h)) (fun _ _ => zs_KX_p) zyw_Matcher_agree (fun va F G h => by obtain ⟨rfl, _⟩ := h; rfl) (fun va F G h => by obtain ⟨rfl, _⟩ := h; rfl) rfl fun good va F G hB hret hvret hP => by
  obtain ⟨rfl, rfl, rfl⟩ := hP
  have l2 : ∀ (n : Nat) (x2 : Int) (x3 : Int) (x4 : Int) (x5 : Int) (x6 : Int) (x7 : Int) (x8 : Int) (x9 : Int) (g1 : (Int → Int)) (q : Int), zf_Matcher_agree_l2 x3 x7 g1 g2 n x8 x9 = some q → (good 119 [.inr 0, .inr 1000, .inl x2, .inl x3, .inl x4, .inl x5, .inl x6, .inl x7, .inl q, .inr 1000] [] [.inr 1, .inr 4] [g0, g1, g2]) → good 78 [.inr 0, .inr 1000, .inl x2, .inl x3, .inl x4, .inl x5, .inl x6, .inl x7, .inl x8, .inl x9] [] [.inr 1, .inr 4] [g0, g1, g2] := by
    intro n
    induction n with
    | zero => intro x2 x3 x4 x5 x6 x7 x8 x9 g1 q h; exact absurd (show none = some q from h) (fun h => by cases h)
    | succ n ih =>
      intro x2 x3 x4 x5 x6 x7 x8 x9 g1 q h hK
      replace h : zf_Matcher_agree_l2_b x3 x7 g1 g2 (zf_Matcher_agree_l2 x3 x7 g1 g2 n) x8 x9 = some q := h
      unfold zf_Matcher_agree_l2_b at h
      refine zv_ild hB zd118_78 rfl rfl ?_
      refine zv_con hB zd118_80 rfl ?_
      refine zv_cge hB zd118_82 rfl (fun hc7 => ?_) (fun hc7 => ?_)
      · rw [if_neg (Int.not_lt.mpr hc7)] at h
        have hq := Option.some.inj h
        subst hq
        refine zv_wk hB (L' := [.inr 0, .inr 1000, .inl x2, .inl x3, .inl x4, .inl x5, .inl x6, .inl x7, .inl x8, .inr 1000]) (F' := [.inr 1, .inr 4]) ⟨fun _ => rfl, fun (h : zv_is (.inr 1000)) => (Nat.lt_irrefl 1000 h).elim, fun _ => rfl, fun _ => rfl, fun _ => rfl, fun _ => rfl, fun _ => rfl, fun _ => rfl, fun _ => rfl, fun (h : zv_is (.inr 1000)) => (Nat.lt_irrefl 1000 h).elim, trivial⟩ ⟨fun _ => rfl, fun _ => rfl, trivial⟩ ?_
        exact hK
      · rw [if_pos hc7] at h
        refine zv_ild hB zd118_85 rfl rfl ?_
        refine zv_ild hB zd118_87 rfl rfl ?_
        refine zv_shrw hB zd118_89 ?_
        refine zv_con hB zd118_90 rfl ?_
        refine zv_andw hB zd118_91 ?_
        refine zv_zeq hB zd118_92 rfl (fun hc8 => ?_) (fun hc8 => ?_)
        · rw [if_pos hc8] at h
          refine zv_iincw hB zd118_113 rfl rfl ?_
          refine zv_goto hB zd118_116 rfl ?_
          exact ih _ _ _ _ _ _ _ _ _ q h hK
        · rw [if_neg hc8] at h
          refine zv_ild hB zd118_95 rfl rfl ?_
          refine zv_ald hB zd118_97 rfl rfl rfl ?_
          refine zv_ald hB zd118_98 rfl rfl rfl ?_
          refine zv_getr hB zd118_99 rfl ?_
          refine zv_ild hB zd118_102 rfl rfl ?_
          refine zv_ild hB zd118_103 rfl rfl ?_
          refine zv_addw hB zd118_105 ?_
          obtain ⟨c9, h⟩ := zi_if h
          refine zv_iald hB zd118_106 rfl rfl (zi_ix_ok c9).1 (zi_ix_ok c9).2 (fun _ _ => ?_)
          obtain ⟨r10, hr10, h⟩ := zi_bind h
          refine zv_cv hB (zv_emq (va2 := [.inr 0, .inl (g1 (zi_w (x3 + x9)))]) (F := [.inr 1, .inr 4]) (F' := [.inr 1, .inr 4]) (G := [g0, g1, g2]) (G' := [g0, g1, g2]) (ρ := [0, 4]) (φ := [1]) (ψ := [2]) [none, some 0] [none, none, some 0] zyw_Matcher_besides zyw_Matcher_agree zye_Matcher_agree (by decide +kernel) (zt_Matcher_besides hr10) ⟨⟨_, rfl, fun _ => rfl⟩, trivial⟩ ⟨rfl, trivial⟩ rfl rfl rfl rfl rfl rfl rfl) zd118_107 zxt119 rfl (by decide) (by decide) rfl ?_
          refine zv_andw hB zd118_110 ?_
          refine zv_ist hB zd118_111 rfl rfl rfl ?_
          refine zv_iincw hB zd118_113 rfl rfl ?_
          refine zv_goto hB zd118_116 rfl ?_
          exact ih _ _ _ _ _ _ _ _ _ q h hK
  have l1 : ∀ (n : Nat) (x2 : Int) (x3 : Int) (x4 : Int) (x5 : Int) (x6 : Int) (g1 : (Int → Int)) (q : ((Int × (Int → Int)) ⊕ (Int × (Int → Int)))), zf_Matcher_agree_l1 x2 x3 g0 g2 n x4 x6 g1 = some q → (Sum.elim (fun e : Int × (Int → Int) => good 174 [.inr 0, .inr 1000, .inl x2, .inl x3, .inl e.1, .inl x5, .inr 1000, .inr 1000, .inr 1000, .inr 1000] [] [.inr 1, .inr 4] [g0, e.2, g2]) (fun w : Int × (Int → Int) => w = o) q) → good 30 [.inr 0, .inr 1000, .inl x2, .inl x3, .inl x4, .inl x5, .inl x6, .inr 1000, .inr 1000, .inr 1000] [] [.inr 1, .inr 4] [g0, g1, g2] := by
    intro n
    induction n with
    | zero => intro x2 x3 x4 x5 x6 g1 q h; exact absurd (show none = some q from h) (fun h => by cases h)
    | succ n ih =>
      intro x2 x3 x4 x5 x6 g1 q h hK
      replace h : zf_Matcher_agree_l1_b x2 x3 g0 g2 (zf_Matcher_agree_l1 x2 x3 g0 g2 n) x4 x6 g1 = some q := h
      unfold zf_Matcher_agree_l1_b at h
      refine zv_ild hB zd118_30 rfl rfl ?_
      refine zv_con hB zd118_32 rfl ?_
      refine zv_cge hB zd118_34 rfl (fun hc3 => ?_) (fun hc3 => ?_)
      · rw [if_neg (Int.not_lt.mpr hc3)] at h
        have hq := Option.some.inj h
        subst hq
        refine zv_wk hB (L' := [.inr 0, .inr 1000, .inl x2, .inl x3, .inl x4, .inl x5, .inr 1000, .inr 1000, .inr 1000, .inr 1000]) (F' := [.inr 1, .inr 4]) ⟨fun _ => rfl, fun (h : zv_is (.inr 1000)) => (Nat.lt_irrefl 1000 h).elim, fun _ => rfl, fun _ => rfl, fun _ => rfl, fun _ => rfl, fun (h : zv_is (.inr 1000)) => (Nat.lt_irrefl 1000 h).elim, fun (h : zv_is (.inr 1000)) => (Nat.lt_irrefl 1000 h).elim, fun (h : zv_is (.inr 1000)) => (Nat.lt_irrefl 1000 h).elim, fun (h : zv_is (.inr 1000)) => (Nat.lt_irrefl 1000 h).elim, trivial⟩ ⟨fun _ => rfl, fun _ => rfl, trivial⟩ ?_
        exact hK
      · rw [if_pos hc3] at h
        refine zv_ild hB zd118_37 rfl rfl ?_
        refine zv_ild hB zd118_38 rfl rfl ?_
        refine zv_shrw hB zd118_40 ?_
        refine zv_con hB zd118_41 rfl ?_
        refine zv_andw hB zd118_42 ?_
        refine zv_zne hB zd118_43 rfl (fun hc4 => ?_) (fun hc4 => ?_)
        · rw [if_neg hc4] at h
          refine zv_ald hB zd118_50 rfl rfl rfl ?_
          refine zv_getq hB zd118_51 rfl rfl rfl ?_
          refine zv_getr hB zd118_54 rfl ?_
          refine zv_ild hB zd118_57 rfl rfl ?_
          obtain ⟨c5, h⟩ := zi_if h
          refine zv_iald hB zd118_59 rfl rfl (zi_ix_ok c5).1 (zi_ix_ok c5).2 (fun _ _ => ?_)
          refine zv_ild hB zd118_60 rfl rfl ?_
          refine zv_andw hB zd118_61 ?_
          refine zv_ist hB zd118_62 rfl rfl rfl ?_
          refine zv_ald hB zd118_64 rfl rfl rfl ?_
          refine zv_getr hB zd118_65 rfl ?_
          refine zv_ild hB zd118_68 rfl rfl ?_
          refine zv_ild hB zd118_69 rfl rfl ?_
          refine zv_addw hB zd118_71 ?_
          obtain ⟨c6, h⟩ := zi_if h
          refine zv_iald hB zd118_72 rfl rfl (zi_ix_ok c6).1 (zi_ix_ok c6).2 (fun _ _ => ?_)
          refine zv_ist hB zd118_73 rfl rfl rfl ?_
          refine zv_con hB zd118_75 rfl ?_
          refine zv_ist hB zd118_76 rfl rfl rfl ?_
          obtain ⟨q11, hq11, h⟩ := zi_bind h
          refine l2 _ _ _ _ _ _ _ _ _ _ q11 hq11 ?_
          show good 119 [.inr 0, .inr 1000, .inl x2, .inl x3, .inl x4, .inl x5, .inl x6, .inl (zi_and (g0 x6) x2), .inl q11, .inr 1000] [] [.inr 1, .inr 4] [g0, g1, g2]
          refine zv_ild hB zd118_119 rfl rfl ?_
          refine zv_zeq hB zd118_121 rfl (fun hc12 => ?_) (fun hc12 => ?_)
          · rw [if_pos hc12] at h
            refine zv_ild hB zd118_131 rfl rfl ?_
            refine zv_zne hB zd118_133 rfl (fun hc13 => ?_) (fun hc13 => ?_)
            · rw [if_neg hc13] at h
              refine zv_con hB zd118_150 rfl ?_
              refine zv_goto hB zd118_151 rfl ?_
              refine zv_ist hB zd118_155 rfl rfl rfl ?_
              refine zv_ald hB zd118_157 rfl rfl rfl ?_
              refine zv_getr hB zd118_158 rfl ?_
              refine zv_ild hB zd118_161 rfl rfl ?_
              refine zv_ild hB zd118_162 rfl rfl ?_
              refine zv_addw hB zd118_164 ?_
              refine zv_ild hB zd118_165 rfl rfl ?_
              refine zv_iast hB zd118_167 rfl rfl (zi_ix_ok c6).1 (zi_ix_ok c6).2 ?_
              refine zv_iincw hB zd118_168 rfl rfl ?_
              refine zv_goto hB zd118_171 rfl ?_
              refine zv_wk hB (L' := [.inr 0, .inr 1000, .inl x2, .inl x3, .inl 1, .inl x5, .inl (zi_w (x6 + 1)), .inr 1000, .inr 1000, .inr 1000]) (F' := [.inr 1, .inr 4]) ⟨fun _ => rfl, fun (h : zv_is (.inr 1000)) => (Nat.lt_irrefl 1000 h).elim, fun _ => rfl, fun _ => rfl, fun _ => rfl, fun _ => rfl, fun _ => rfl, fun (h : zv_is (.inr 1000)) => (Nat.lt_irrefl 1000 h).elim, fun (h : zv_is (.inr 1000)) => (Nat.lt_irrefl 1000 h).elim, fun (h : zv_is (.inr 1000)) => (Nat.lt_irrefl 1000 h).elim, trivial⟩ ⟨fun _ => rfl, fun _ => rfl, trivial⟩ ?_
              exact ih _ _ _ _ _ _ q h hK
            · rw [if_pos hc13] at h
              refine zv_ild hB zd118_136 rfl rfl ?_
              refine zv_ald hB zd118_138 rfl rfl rfl ?_
              refine zv_getr hB zd118_139 rfl ?_
              refine zv_ild hB zd118_142 rfl rfl ?_
              refine zv_ild hB zd118_143 rfl rfl ?_
              refine zv_addw hB zd118_145 ?_
              refine zv_iald hB zd118_146 rfl rfl (zi_ix_ok c6).1 (zi_ix_ok c6).2 (fun _ _ => ?_)
              refine zv_ceq hB zd118_147 rfl (fun hc14 => ?_) (fun hc14 => ?_)
              · rw [if_pos hc14] at h
                refine zv_con hB zd118_154 rfl ?_
                refine zv_ist hB zd118_155 rfl rfl rfl ?_
                refine zv_ald hB zd118_157 rfl rfl rfl ?_
                refine zv_getr hB zd118_158 rfl ?_
                refine zv_ild hB zd118_161 rfl rfl ?_
                refine zv_ild hB zd118_162 rfl rfl ?_
                refine zv_addw hB zd118_164 ?_
                refine zv_ild hB zd118_165 rfl rfl ?_
                refine zv_iast hB zd118_167 rfl rfl (zi_ix_ok c6).1 (zi_ix_ok c6).2 ?_
                refine zv_iincw hB zd118_168 rfl rfl ?_
                refine zv_goto hB zd118_171 rfl ?_
                refine zv_wk hB (L' := [.inr 0, .inr 1000, .inl x2, .inl x3, .inl 0, .inl x5, .inl (zi_w (x6 + 1)), .inr 1000, .inr 1000, .inr 1000]) (F' := [.inr 1, .inr 4]) ⟨fun _ => rfl, fun (h : zv_is (.inr 1000)) => (Nat.lt_irrefl 1000 h).elim, fun _ => rfl, fun _ => rfl, fun _ => rfl, fun _ => rfl, fun _ => rfl, fun (h : zv_is (.inr 1000)) => (Nat.lt_irrefl 1000 h).elim, fun (h : zv_is (.inr 1000)) => (Nat.lt_irrefl 1000 h).elim, fun (h : zv_is (.inr 1000)) => (Nat.lt_irrefl 1000 h).elim, trivial⟩ ⟨fun _ => rfl, fun _ => rfl, trivial⟩ ?_
                exact ih _ _ _ _ _ _ q h hK
              · rw [if_neg hc14] at h
                refine zv_con hB zd118_150 rfl ?_
                refine zv_goto hB zd118_151 rfl ?_
                refine zv_ist hB zd118_155 rfl rfl rfl ?_
                refine zv_ald hB zd118_157 rfl rfl rfl ?_
                refine zv_getr hB zd118_158 rfl ?_
                refine zv_ild hB zd118_161 rfl rfl ?_
                refine zv_ild hB zd118_162 rfl rfl ?_
                refine zv_addw hB zd118_164 ?_
                refine zv_ild hB zd118_165 rfl rfl ?_
                refine zv_iast hB zd118_167 rfl rfl (zi_ix_ok c6).1 (zi_ix_ok c6).2 ?_
                refine zv_iincw hB zd118_168 rfl rfl ?_
                refine zv_goto hB zd118_171 rfl ?_
                refine zv_wk hB (L' := [.inr 0, .inr 1000, .inl x2, .inl x3, .inl 1, .inl x5, .inl (zi_w (x6 + 1)), .inr 1000, .inr 1000, .inr 1000]) (F' := [.inr 1, .inr 4]) ⟨fun _ => rfl, fun (h : zv_is (.inr 1000)) => (Nat.lt_irrefl 1000 h).elim, fun _ => rfl, fun _ => rfl, fun _ => rfl, fun _ => rfl, fun _ => rfl, fun (h : zv_is (.inr 1000)) => (Nat.lt_irrefl 1000 h).elim, fun (h : zv_is (.inr 1000)) => (Nat.lt_irrefl 1000 h).elim, fun (h : zv_is (.inr 1000)) => (Nat.lt_irrefl 1000 h).elim, trivial⟩ ⟨fun _ => rfl, fun _ => rfl, trivial⟩ ?_
                exact ih _ _ _ _ _ _ q h hK
          · rw [if_neg hc12] at h
            refine zv_ild hB zd118_124 rfl rfl ?_
            refine zv_zne hB zd118_126 rfl (fun hc15 => ?_) (fun hc15 => ?_)
            · rw [if_neg hc15] at h
              refine zv_ild hB zd118_131 rfl rfl ?_
              refine zv_zne hB zd118_133 rfl (fun hc16 => ?_) (fun hc16 => ?_)
              · rw [if_neg hc16] at h
                refine zv_con hB zd118_150 rfl ?_
                refine zv_goto hB zd118_151 rfl ?_
                refine zv_ist hB zd118_155 rfl rfl rfl ?_
                refine zv_ald hB zd118_157 rfl rfl rfl ?_
                refine zv_getr hB zd118_158 rfl ?_
                refine zv_ild hB zd118_161 rfl rfl ?_
                refine zv_ild hB zd118_162 rfl rfl ?_
                refine zv_addw hB zd118_164 ?_
                refine zv_ild hB zd118_165 rfl rfl ?_
                refine zv_iast hB zd118_167 rfl rfl (zi_ix_ok c6).1 (zi_ix_ok c6).2 ?_
                refine zv_iincw hB zd118_168 rfl rfl ?_
                refine zv_goto hB zd118_171 rfl ?_
                refine zv_wk hB (L' := [.inr 0, .inr 1000, .inl x2, .inl x3, .inl 1, .inl x5, .inl (zi_w (x6 + 1)), .inr 1000, .inr 1000, .inr 1000]) (F' := [.inr 1, .inr 4]) ⟨fun _ => rfl, fun (h : zv_is (.inr 1000)) => (Nat.lt_irrefl 1000 h).elim, fun _ => rfl, fun _ => rfl, fun _ => rfl, fun _ => rfl, fun _ => rfl, fun (h : zv_is (.inr 1000)) => (Nat.lt_irrefl 1000 h).elim, fun (h : zv_is (.inr 1000)) => (Nat.lt_irrefl 1000 h).elim, fun (h : zv_is (.inr 1000)) => (Nat.lt_irrefl 1000 h).elim, trivial⟩ ⟨fun _ => rfl, fun _ => rfl, trivial⟩ ?_
                exact ih _ _ _ _ _ _ q h hK
              · rw [if_pos hc16] at h
                refine zv_ild hB zd118_136 rfl rfl ?_
                refine zv_ald hB zd118_138 rfl rfl rfl ?_
                refine zv_getr hB zd118_139 rfl ?_
                refine zv_ild hB zd118_142 rfl rfl ?_
                refine zv_ild hB zd118_143 rfl rfl ?_
                refine zv_addw hB zd118_145 ?_
                refine zv_iald hB zd118_146 rfl rfl (zi_ix_ok c6).1 (zi_ix_ok c6).2 (fun _ _ => ?_)
                refine zv_ceq hB zd118_147 rfl (fun hc17 => ?_) (fun hc17 => ?_)
                · rw [if_pos hc17] at h
                  refine zv_con hB zd118_154 rfl ?_
                  refine zv_ist hB zd118_155 rfl rfl rfl ?_
                  refine zv_ald hB zd118_157 rfl rfl rfl ?_
                  refine zv_getr hB zd118_158 rfl ?_
                  refine zv_ild hB zd118_161 rfl rfl ?_
                  refine zv_ild hB zd118_162 rfl rfl ?_
                  refine zv_addw hB zd118_164 ?_
                  refine zv_ild hB zd118_165 rfl rfl ?_
                  refine zv_iast hB zd118_167 rfl rfl (zi_ix_ok c6).1 (zi_ix_ok c6).2 ?_
                  refine zv_iincw hB zd118_168 rfl rfl ?_
                  refine zv_goto hB zd118_171 rfl ?_
                  refine zv_wk hB (L' := [.inr 0, .inr 1000, .inl x2, .inl x3, .inl 0, .inl x5, .inl (zi_w (x6 + 1)), .inr 1000, .inr 1000, .inr 1000]) (F' := [.inr 1, .inr 4]) ⟨fun _ => rfl, fun (h : zv_is (.inr 1000)) => (Nat.lt_irrefl 1000 h).elim, fun _ => rfl, fun _ => rfl, fun _ => rfl, fun _ => rfl, fun _ => rfl, fun (h : zv_is (.inr 1000)) => (Nat.lt_irrefl 1000 h).elim, fun (h : zv_is (.inr 1000)) => (Nat.lt_irrefl 1000 h).elim, fun (h : zv_is (.inr 1000)) => (Nat.lt_irrefl 1000 h).elim, trivial⟩ ⟨fun _ => rfl, fun _ => rfl, trivial⟩ ?_
                  exact ih _ _ _ _ _ _ q h hK
                · rw [if_neg hc17] at h
                  refine zv_con hB zd118_150 rfl ?_
                  refine zv_goto hB zd118_151 rfl ?_
                  refine zv_ist hB zd118_155 rfl rfl rfl ?_
                  refine zv_ald hB zd118_157 rfl rfl rfl ?_
                  refine zv_getr hB zd118_158 rfl ?_
                  refine zv_ild hB zd118_161 rfl rfl ?_
                  refine zv_ild hB zd118_162 rfl rfl ?_
                  refine zv_addw hB zd118_164 ?_
                  refine zv_ild hB zd118_165 rfl rfl ?_
                  refine zv_iast hB zd118_167 rfl rfl (zi_ix_ok c6).1 (zi_ix_ok c6).2 ?_
                  refine zv_iincw hB zd118_168 rfl rfl ?_
                  refine zv_goto hB zd118_171 rfl ?_
                  refine zv_wk hB (L' := [.inr 0, .inr 1000, .inl x2, .inl x3, .inl 1, .inl x5, .inl (zi_w (x6 + 1)), .inr 1000, .inr 1000, .inr 1000]) (F' := [.inr 1, .inr 4]) ⟨fun _ => rfl, fun (h : zv_is (.inr 1000)) => (Nat.lt_irrefl 1000 h).elim, fun _ => rfl, fun _ => rfl, fun _ => rfl, fun _ => rfl, fun _ => rfl, fun (h : zv_is (.inr 1000)) => (Nat.lt_irrefl 1000 h).elim, fun (h : zv_is (.inr 1000)) => (Nat.lt_irrefl 1000 h).elim, fun (h : zv_is (.inr 1000)) => (Nat.lt_irrefl 1000 h).elim, trivial⟩ ⟨fun _ => rfl, fun _ => rfl, trivial⟩ ?_
                  exact ih _ _ _ _ _ _ q h hK
            · rw [if_pos hc15] at h
              refine zv_con hB zd118_129 rfl ?_
              have hw : (0, g1) = o := zi_rk (Option.some.inj h) hK
              subst hw
              exact hret _ _ _ _ _ zd118_130 (by constructor <;> decide) ⟨rfl, rfl, rfl⟩
        · rw [if_pos hc4] at h
          refine zv_con hB zd118_46 rfl ?_
          refine zv_goto hB zd118_47 rfl ?_
          refine zv_ist hB zd118_62 rfl rfl rfl ?_
          refine zv_ald hB zd118_64 rfl rfl rfl ?_
          refine zv_getr hB zd118_65 rfl ?_
          refine zv_ild hB zd118_68 rfl rfl ?_
          refine zv_ild hB zd118_69 rfl rfl ?_
          refine zv_addw hB zd118_71 ?_
          obtain ⟨c18, h⟩ := zi_if h
          refine zv_iald hB zd118_72 rfl rfl (zi_ix_ok c18).1 (zi_ix_ok c18).2 (fun _ _ => ?_)
          refine zv_ist hB zd118_73 rfl rfl rfl ?_
          refine zv_con hB zd118_75 rfl ?_
          refine zv_ist hB zd118_76 rfl rfl rfl ?_
          obtain ⟨q19, hq19, h⟩ := zi_bind h
          refine l2 _ _ _ _ _ _ _ _ _ _ q19 hq19 ?_
          show good 119 [.inr 0, .inr 1000, .inl x2, .inl x3, .inl x4, .inl x5, .inl x6, .inl 0, .inl q19, .inr 1000] [] [.inr 1, .inr 4] [g0, g1, g2]
          refine zv_ild hB zd118_119 rfl rfl ?_
          refine zv_zeq hB zd118_121 rfl (fun _ => ?_) (fun hc => absurd hc (by decide))
          refine zv_ild hB zd118_131 rfl rfl ?_
          refine zv_zne hB zd118_133 rfl (fun hc21 => ?_) (fun hc21 => ?_)
          · rw [if_neg hc21] at h
            refine zv_con hB zd118_150 rfl ?_
            refine zv_goto hB zd118_151 rfl ?_
            refine zv_ist hB zd118_155 rfl rfl rfl ?_
            refine zv_ald hB zd118_157 rfl rfl rfl ?_
            refine zv_getr hB zd118_158 rfl ?_
            refine zv_ild hB zd118_161 rfl rfl ?_
            refine zv_ild hB zd118_162 rfl rfl ?_
            refine zv_addw hB zd118_164 ?_
            refine zv_ild hB zd118_165 rfl rfl ?_
            refine zv_iast hB zd118_167 rfl rfl (zi_ix_ok c18).1 (zi_ix_ok c18).2 ?_
            refine zv_iincw hB zd118_168 rfl rfl ?_
            refine zv_goto hB zd118_171 rfl ?_
            refine zv_wk hB (L' := [.inr 0, .inr 1000, .inl x2, .inl x3, .inl 1, .inl x5, .inl (zi_w (x6 + 1)), .inr 1000, .inr 1000, .inr 1000]) (F' := [.inr 1, .inr 4]) ⟨fun _ => rfl, fun (h : zv_is (.inr 1000)) => (Nat.lt_irrefl 1000 h).elim, fun _ => rfl, fun _ => rfl, fun _ => rfl, fun _ => rfl, fun _ => rfl, fun (h : zv_is (.inr 1000)) => (Nat.lt_irrefl 1000 h).elim, fun (h : zv_is (.inr 1000)) => (Nat.lt_irrefl 1000 h).elim, fun (h : zv_is (.inr 1000)) => (Nat.lt_irrefl 1000 h).elim, trivial⟩ ⟨fun _ => rfl, fun _ => rfl, trivial⟩ ?_
            exact ih _ _ _ _ _ _ q h hK
          · rw [if_pos hc21] at h
            refine zv_ild hB zd118_136 rfl rfl ?_
            refine zv_ald hB zd118_138 rfl rfl rfl ?_
            refine zv_getr hB zd118_139 rfl ?_
            refine zv_ild hB zd118_142 rfl rfl ?_
            refine zv_ild hB zd118_143 rfl rfl ?_
            refine zv_addw hB zd118_145 ?_
            refine zv_iald hB zd118_146 rfl rfl (zi_ix_ok c18).1 (zi_ix_ok c18).2 (fun _ _ => ?_)
            refine zv_ceq hB zd118_147 rfl (fun hc22 => ?_) (fun hc22 => ?_)
            · rw [if_pos hc22] at h
              refine zv_con hB zd118_154 rfl ?_
              refine zv_ist hB zd118_155 rfl rfl rfl ?_
              refine zv_ald hB zd118_157 rfl rfl rfl ?_
              refine zv_getr hB zd118_158 rfl ?_
              refine zv_ild hB zd118_161 rfl rfl ?_
              refine zv_ild hB zd118_162 rfl rfl ?_
              refine zv_addw hB zd118_164 ?_
              refine zv_ild hB zd118_165 rfl rfl ?_
              refine zv_iast hB zd118_167 rfl rfl (zi_ix_ok c18).1 (zi_ix_ok c18).2 ?_
              refine zv_iincw hB zd118_168 rfl rfl ?_
              refine zv_goto hB zd118_171 rfl ?_
              refine zv_wk hB (L' := [.inr 0, .inr 1000, .inl x2, .inl x3, .inl 0, .inl x5, .inl (zi_w (x6 + 1)), .inr 1000, .inr 1000, .inr 1000]) (F' := [.inr 1, .inr 4]) ⟨fun _ => rfl, fun (h : zv_is (.inr 1000)) => (Nat.lt_irrefl 1000 h).elim, fun _ => rfl, fun _ => rfl, fun _ => rfl, fun _ => rfl, fun _ => rfl, fun (h : zv_is (.inr 1000)) => (Nat.lt_irrefl 1000 h).elim, fun (h : zv_is (.inr 1000)) => (Nat.lt_irrefl 1000 h).elim, fun (h : zv_is (.inr 1000)) => (Nat.lt_irrefl 1000 h).elim, trivial⟩ ⟨fun _ => rfl, fun _ => rfl, trivial⟩ ?_
              exact ih _ _ _ _ _ _ q h hK
            · rw [if_neg hc22] at h
              refine zv_con hB zd118_150 rfl ?_
              refine zv_goto hB zd118_151 rfl ?_
              refine zv_ist hB zd118_155 rfl rfl rfl ?_
              refine zv_ald hB zd118_157 rfl rfl rfl ?_
              refine zv_getr hB zd118_158 rfl ?_
              refine zv_ild hB zd118_161 rfl rfl ?_
              refine zv_ild hB zd118_162 rfl rfl ?_
              refine zv_addw hB zd118_164 ?_
              refine zv_ild hB zd118_165 rfl rfl ?_
              refine zv_iast hB zd118_167 rfl rfl (zi_ix_ok c18).1 (zi_ix_ok c18).2 ?_
              refine zv_iincw hB zd118_168 rfl rfl ?_
              refine zv_goto hB zd118_171 rfl ?_
              refine zv_wk hB (L' := [.inr 0, .inr 1000, .inl x2, .inl x3, .inl 1, .inl x5, .inl (zi_w (x6 + 1)), .inr 1000, .inr 1000, .inr 1000]) (F' := [.inr 1, .inr 4]) ⟨fun _ => rfl, fun (h : zv_is (.inr 1000)) => (Nat.lt_irrefl 1000 h).elim, fun _ => rfl, fun _ => rfl, fun _ => rfl, fun _ => rfl, fun _ => rfl, fun (h : zv_is (.inr 1000)) => (Nat.lt_irrefl 1000 h).elim, fun (h : zv_is (.inr 1000)) => (Nat.lt_irrefl 1000 h).elim, fun (h : zv_is (.inr 1000)) => (Nat.lt_irrefl 1000 h).elim, trivial⟩ ⟨fun _ => rfl, fun _ => rfl, trivial⟩ ?_
              exact ih _ _ _ _ _ _ q h hK
  have l0 : ∀ (n : Nat) (x2 : Int) (x3 : Int) (x4 : Int) (x5 : Int) (g1 : (Int → Int)) (q : (((Int → Int)) ⊕ (Int × (Int → Int)))), zf_Matcher_agree_l0 x2 x3 g0 g2 n x4 x5 g1 = some q → (Sum.elim (fun e : (Int → Int) => good 180 [.inr 1000, .inr 1000, .inr 1000, .inr 1000, .inr 1000, .inr 1000, .inr 1000, .inr 1000, .inr 1000, .inr 1000] [] [.inr 1, .inr 4] [g0, e, g2]) (fun w : Int × (Int → Int) => w = o) q) → good 11 [.inr 0, .inr 1000, .inl x2, .inl x3, .inl x4, .inl x5, .inr 1000, .inr 1000, .inr 1000, .inr 1000] [] [.inr 1, .inr 4] [g0, g1, g2] := by
    intro n
    induction n with
    | zero => intro x2 x3 x4 x5 g1 q h; exact absurd (show none = some q from h) (fun h => by cases h)
    | succ n ih =>
      intro x2 x3 x4 x5 g1 q h hK
      replace h : zf_Matcher_agree_l0_b x2 x3 g0 g2 (zf_Matcher_agree_l0 x2 x3 g0 g2 n) x4 x5 g1 = some q := h
      unfold zf_Matcher_agree_l0_b at h
      refine zv_ild hB zd118_11 rfl rfl ?_
      refine zv_con hB zd118_13 rfl ?_
      refine zv_cge hB zd118_16 rfl (fun hc1 => ?_) (fun hc1 => ?_)
      · rw [if_neg (Int.not_lt.mpr hc1)] at h
        have hq := Option.some.inj h
        subst hq
        refine zv_wk hB (L' := [.inr 1000, .inr 1000, .inr 1000, .inr 1000, .inr 1000, .inr 1000, .inr 1000, .inr 1000, .inr 1000, .inr 1000]) (F' := [.inr 1, .inr 4]) ⟨fun (h : zv_is (.inr 1000)) => (Nat.lt_irrefl 1000 h).elim, fun (h : zv_is (.inr 1000)) => (Nat.lt_irrefl 1000 h).elim, fun (h : zv_is (.inr 1000)) => (Nat.lt_irrefl 1000 h).elim, fun (h : zv_is (.inr 1000)) => (Nat.lt_irrefl 1000 h).elim, fun (h : zv_is (.inr 1000)) => (Nat.lt_irrefl 1000 h).elim, fun (h : zv_is (.inr 1000)) => (Nat.lt_irrefl 1000 h).elim, fun (h : zv_is (.inr 1000)) => (Nat.lt_irrefl 1000 h).elim, fun (h : zv_is (.inr 1000)) => (Nat.lt_irrefl 1000 h).elim, fun (h : zv_is (.inr 1000)) => (Nat.lt_irrefl 1000 h).elim, fun (h : zv_is (.inr 1000)) => (Nat.lt_irrefl 1000 h).elim, trivial⟩ ⟨fun _ => rfl, fun _ => rfl, trivial⟩ ?_
        exact hK
      · rw [if_pos hc1] at h
        refine zv_ild hB zd118_19 rfl rfl ?_
        refine zv_zeq hB zd118_21 rfl (fun hc2 => ?_) (fun hc2 => ?_)
        · rw [if_pos hc2] at h
          have hq := Option.some.inj h
          subst hq
          refine zv_wk hB (L' := [.inr 1000, .inr 1000, .inr 1000, .inr 1000, .inr 1000, .inr 1000, .inr 1000, .inr 1000, .inr 1000, .inr 1000]) (F' := [.inr 1, .inr 4]) ⟨fun (h : zv_is (.inr 1000)) => (Nat.lt_irrefl 1000 h).elim, fun (h : zv_is (.inr 1000)) => (Nat.lt_irrefl 1000 h).elim, fun (h : zv_is (.inr 1000)) => (Nat.lt_irrefl 1000 h).elim, fun (h : zv_is (.inr 1000)) => (Nat.lt_irrefl 1000 h).elim, fun (h : zv_is (.inr 1000)) => (Nat.lt_irrefl 1000 h).elim, fun (h : zv_is (.inr 1000)) => (Nat.lt_irrefl 1000 h).elim, fun (h : zv_is (.inr 1000)) => (Nat.lt_irrefl 1000 h).elim, fun (h : zv_is (.inr 1000)) => (Nat.lt_irrefl 1000 h).elim, fun (h : zv_is (.inr 1000)) => (Nat.lt_irrefl 1000 h).elim, fun (h : zv_is (.inr 1000)) => (Nat.lt_irrefl 1000 h).elim, trivial⟩ ⟨fun _ => rfl, fun _ => rfl, trivial⟩ ?_
          exact hK
        · rw [if_neg hc2] at h
          refine zv_con hB zd118_24 rfl ?_
          refine zv_ist hB zd118_25 rfl rfl rfl ?_
          refine zv_con hB zd118_27 rfl ?_
          refine zv_ist hB zd118_28 rfl rfl rfl ?_
          obtain ⟨q23, hq23, h⟩ := zi_bind h
          refine l1 _ _ _ _ _ _ _ q23 hq23 ?_
          rcases q23 with e24 | w25
          · replace h := zi_sl h
            show good 174 [.inr 0, .inr 1000, .inl x2, .inl x3, .inl e24.1, .inl x5, .inr 1000, .inr 1000, .inr 1000, .inr 1000] [] [.inr 1, .inr 4] [g0, e24.2, g2]
            refine zv_iincw hB zd118_174 rfl rfl ?_
            refine zv_goto hB zd118_177 rfl ?_
            exact ih _ _ _ _ _ q h hK
          · exact zi_rk (Option.some.inj h) hK
  unfold zf_Matcher_agree at h
  refine zv_ild hB zd118_0 rfl rfl ?_
  refine zv_con hB zd118_1 rfl ?_
  refine zv_mulw hB zd118_3 ?_
  refine zv_ist hB zd118_4 rfl rfl rfl ?_
  refine zv_con hB zd118_5 rfl ?_
  refine zv_ist hB zd118_6 rfl rfl rfl ?_
  refine zv_con hB zd118_8 rfl ?_
  refine zv_ist hB zd118_9 rfl rfl rfl ?_
  obtain ⟨q26, hq26, h⟩ := zi_bind h
  refine zv_wk hB (L' := [.inr 0, .inr 1000, .inl x2, .inl (zi_w (x1 * 8)), .inl 1, .inl 0, .inr 1000, .inr 1000, .inr 1000, .inr 1000]) (F' := [.inr 1, .inr 4]) ⟨fun _ => rfl, fun (h : zv_is (.inr 1000)) => (Nat.lt_irrefl 1000 h).elim, fun _ => rfl, fun _ => rfl, fun _ => rfl, fun _ => rfl, fun (h : zv_is (.inr 1000)) => (Nat.lt_irrefl 1000 h).elim, fun (h : zv_is (.inr 1000)) => (Nat.lt_irrefl 1000 h).elim, fun (h : zv_is (.inr 1000)) => (Nat.lt_irrefl 1000 h).elim, fun (h : zv_is (.inr 1000)) => (Nat.lt_irrefl 1000 h).elim, trivial⟩ ⟨fun _ => rfl, fun _ => rfl, trivial⟩ ?_
  refine l0 _ _ _ _ _ _ q26 hq26 ?_
  rcases q26 with e27 | w28
  · replace h := zi_sl h
    show good 180 [.inr 1000, .inr 1000, .inr 1000, .inr 1000, .inr 1000, .inr 1000, .inr 1000, .inr 1000, .inr 1000, .inr 1000] [] [.inr 1, .inr 4] [g0, e27, g2]
    refine zv_con hB zd118_180 rfl ?_
    have hw := Option.some.inj h
    subst hw
    exact hret _ _ _ _ _ zd118_181 (by constructor <;> decide) ⟨rfl, rfl, rfl⟩
  · exact Option.some.inj h
