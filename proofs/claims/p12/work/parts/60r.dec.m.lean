/-! 60r.dec, 60s.dec -/
section
/-! Methods as functions, and that they do what these do. -/
/-! Matcher_narrow (IIII)Z -/
-- names: 0 Matcher('arg', 0), 1 (0, 72)(0, 8, 0), 2 Tale(0, 8, 3), 3 (0, 8)(2, 6, 2), 4 (0, 24)(0, 8, 4)
-- fields: f0 = 0.tale_, f1 = 0.joined_; arrays: g0 = 1, g1 = 3, g2 = 4; out: [('ret', None), ('g', 0)]
abbrev zy_Matcher_narrow : zNL := (5, [(0, 8), (2, 6)], [(0, 8, 3, 0), (0, 8, 4, 1)], [(0, 8, 0, 1), (2, 6, 2, 3)], [(1, 0, 72, 0), (3, 0, 8, 1), (4, 0, 24, 2)])
theorem zyw_Matcher_narrow : zv_wf zy_Matcher_narrow = true := by decide +kernel
theorem zye_Matcher_narrow : zv_ek2 zy_Matcher_narrow = true := by decide +kernel
def zf_Matcher_narrow_l0_b (x2 : Int) (x3 : Int) (x4 : Int) (x5 : Int) (x6 : Int) (g1 : (Int → Int)) (g2 : (Int → Int)) (rec : Int → (Int → Int) → Option ((((Int → Int)) ⊕ (Int × (Int → Int))))) (x7 : Int) (g0 : (Int → Int)) : Option ((((Int → Int)) ⊕ (Int × (Int → Int)))) := if x7 < 8 then (if (zi_and (zi_shr x2 x7) 1) = 0 then (rec (zi_w (x7 + 1)) g0) else (cond (zi_ix (zi_w (x5 + x7)) 72) (cond (zi_ix x3 8) (if (zi_and (zi_shr (g1 x3) x7) 1) = 0 then (if (zi_and (g0 (zi_w (x5 + x7))) (zi_xor (zi_shl 1 x4) (-1))) = 0 then (some (.inr (0, g0))) else (cond (zi_ix (zi_w (x6 + x7)) 72) (rec (zi_w (x7 + 1)) (zv_up g0 (zi_w (x6 + x7)) (zi_and (g0 (zi_w (x5 + x7))) (zi_xor (zi_shl 1 x4) (-1))))) none)) else (cond (zi_ix x4 24) (if (zi_and (zi_and (g0 (zi_w (x5 + x7))) (zi_xor (zi_shl 1 x4) (-1))) (g2 x4)) = 0 then (some (.inr (0, g0))) else (cond (zi_ix (zi_w (x6 + x7)) 72) (rec (zi_w (x7 + 1)) (zv_up g0 (zi_w (x6 + x7)) (zi_and (zi_and (g0 (zi_w (x5 + x7))) (zi_xor (zi_shl 1 x4) (-1))) (g2 x4)))) none)) none)) none) none)) else (some (.inl g0))
def zf_Matcher_narrow_l0 (x2 : Int) (x3 : Int) (x4 : Int) (x5 : Int) (x6 : Int) (g1 : (Int → Int)) (g2 : (Int → Int)) : Nat → Int → (Int → Int) → Option ((((Int → Int)) ⊕ (Int × (Int → Int))))
  | 0, _, _ => none
  | n + 1, x7, g0 => zf_Matcher_narrow_l0_b x2 x3 x4 x5 x6 g1 g2 (zf_Matcher_narrow_l0 x2 x3 x4 x5 x6 g1 g2 n) x7 g0
def zf_Matcher_narrow (x1 : Int) (x2 : Int) (x3 : Int) (x4 : Int) (g0 : (Int → Int)) (g1 : (Int → Int)) (g2 : (Int → Int)) : Option (Int × (Int → Int)) := (zf_Matcher_narrow_l0 x2 x3 x4 (zi_w (x1 * 8)) (zi_w ((zi_w (x1 * 8)) + 8)) g1 g2 zi_fu 0 g0).bind fun q11 => Sum.elim (fun e12 => (some (1, e12))) (fun w13 => some w13) q11
theorem zd117_0 : decode zxm117.2.1 0 = .ok (.iload_n 1, 1) := by decide +kernel
theorem zd117_1 : decode zxm117.2.1 1 = .ok (.bipush 8, 2) := by decide +kernel
theorem zd117_3 : decode zxm117.2.1 3 = .ok (.imul, 1) := by decide +kernel
theorem zd117_4 : decode zxm117.2.1 4 = .ok (.istore 5, 2) := by decide +kernel
theorem zd117_6 : decode zxm117.2.1 6 = .ok (.iload 5, 2) := by decide +kernel
theorem zd117_8 : decode zxm117.2.1 8 = .ok (.bipush 8, 2) := by decide +kernel
theorem zd117_10 : decode zxm117.2.1 10 = .ok (.iadd, 1) := by decide +kernel
theorem zd117_11 : decode zxm117.2.1 11 = .ok (.istore 6, 2) := by decide +kernel
theorem zd117_13 : decode zxm117.2.1 13 = .ok (.iconst 0, 1) := by decide +kernel
theorem zd117_14 : decode zxm117.2.1 14 = .ok (.istore 7, 2) := by decide +kernel
theorem zd117_16 : decode zxm117.2.1 16 = .ok (.iload 7, 2) := by decide +kernel
theorem zd117_18 : decode zxm117.2.1 18 = .ok (.bipush 8, 2) := by decide +kernel
theorem zd117_20 : decode zxm117.2.1 20 = .ok (.if_icmp .ge 85, 3) := by decide +kernel
theorem zd117_23 : decode zxm117.2.1 23 = .ok (.iload_n 2, 1) := by decide +kernel
theorem zd117_24 : decode zxm117.2.1 24 = .ok (.iload 7, 2) := by decide +kernel
theorem zd117_26 : decode zxm117.2.1 26 = .ok (.ishr, 1) := by decide +kernel
theorem zd117_27 : decode zxm117.2.1 27 = .ok (.iconst 1, 1) := by decide +kernel
theorem zd117_28 : decode zxm117.2.1 28 = .ok (.iand, 1) := by decide +kernel
theorem zd117_29 : decode zxm117.2.1 29 = .ok (.ifCond .eq 70, 3) := by decide +kernel
theorem zd117_32 : decode zxm117.2.1 32 = .ok (.aload_n 0, 1) := by decide +kernel
theorem zd117_33 : decode zxm117.2.1 33 = .ok (.getfield 11, 3) := by decide +kernel
theorem zd117_36 : decode zxm117.2.1 36 = .ok (.iload 5, 2) := by decide +kernel
theorem zd117_38 : decode zxm117.2.1 38 = .ok (.iload 7, 2) := by decide +kernel
theorem zd117_40 : decode zxm117.2.1 40 = .ok (.iadd, 1) := by decide +kernel
theorem zd117_41 : decode zxm117.2.1 41 = .ok (.iaload, 1) := by decide +kernel
theorem zd117_42 : decode zxm117.2.1 42 = .ok (.iconst 1, 1) := by decide +kernel
theorem zd117_43 : decode zxm117.2.1 43 = .ok (.iload 4, 2) := by decide +kernel
theorem zd117_45 : decode zxm117.2.1 45 = .ok (.ishl, 1) := by decide +kernel
theorem zd117_46 : decode zxm117.2.1 46 = .ok (.iconst (-1), 1) := by decide +kernel
theorem zd117_47 : decode zxm117.2.1 47 = .ok (.ixor, 1) := by decide +kernel
theorem zd117_48 : decode zxm117.2.1 48 = .ok (.iand, 1) := by decide +kernel
theorem zd117_49 : decode zxm117.2.1 49 = .ok (.istore 8, 2) := by decide +kernel
theorem zd117_51 : decode zxm117.2.1 51 = .ok (.aload_n 0, 1) := by decide +kernel
theorem zd117_52 : decode zxm117.2.1 52 = .ok (.getfield 30, 3) := by decide +kernel
theorem zd117_55 : decode zxm117.2.1 55 = .ok (.getfield 52, 3) := by decide +kernel
theorem zd117_58 : decode zxm117.2.1 58 = .ok (.iload_n 3, 1) := by decide +kernel
theorem zd117_59 : decode zxm117.2.1 59 = .ok (.iaload, 1) := by decide +kernel
theorem zd117_60 : decode zxm117.2.1 60 = .ok (.iload 7, 2) := by decide +kernel
theorem zd117_62 : decode zxm117.2.1 62 = .ok (.ishr, 1) := by decide +kernel
theorem zd117_63 : decode zxm117.2.1 63 = .ok (.iconst 1, 1) := by decide +kernel
theorem zd117_64 : decode zxm117.2.1 64 = .ok (.iand, 1) := by decide +kernel
theorem zd117_65 : decode zxm117.2.1 65 = .ok (.ifCond .eq 15, 3) := by decide +kernel
theorem zd117_68 : decode zxm117.2.1 68 = .ok (.iload 8, 2) := by decide +kernel
theorem zd117_70 : decode zxm117.2.1 70 = .ok (.aload_n 0, 1) := by decide +kernel
theorem zd117_71 : decode zxm117.2.1 71 = .ok (.getfield 34, 3) := by decide +kernel
theorem zd117_74 : decode zxm117.2.1 74 = .ok (.iload 4, 2) := by decide +kernel
theorem zd117_76 : decode zxm117.2.1 76 = .ok (.iaload, 1) := by decide +kernel
theorem zd117_77 : decode zxm117.2.1 77 = .ok (.iand, 1) := by decide +kernel
theorem zd117_78 : decode zxm117.2.1 78 = .ok (.istore 8, 2) := by decide +kernel
theorem zd117_80 : decode zxm117.2.1 80 = .ok (.iload 8, 2) := by decide +kernel
theorem zd117_82 : decode zxm117.2.1 82 = .ok (.ifCond .ne 5, 3) := by decide +kernel
theorem zd117_85 : decode zxm117.2.1 85 = .ok (.iconst 0, 1) := by decide +kernel
theorem zd117_86 : decode zxm117.2.1 86 = .ok (.ireturn, 1) := by decide +kernel
theorem zd117_87 : decode zxm117.2.1 87 = .ok (.aload_n 0, 1) := by decide +kernel
theorem zd117_88 : decode zxm117.2.1 88 = .ok (.getfield 11, 3) := by decide +kernel
theorem zd117_91 : decode zxm117.2.1 91 = .ok (.iload 6, 2) := by decide +kernel
theorem zd117_93 : decode zxm117.2.1 93 = .ok (.iload 7, 2) := by decide +kernel
theorem zd117_95 : decode zxm117.2.1 95 = .ok (.iadd, 1) := by decide +kernel
theorem zd117_96 : decode zxm117.2.1 96 = .ok (.iload 8, 2) := by decide +kernel
theorem zd117_98 : decode zxm117.2.1 98 = .ok (.iastore, 1) := by decide +kernel
theorem zd117_99 : decode zxm117.2.1 99 = .ok (.iinc 7 1, 3) := by decide +kernel
theorem zd117_102 : decode zxm117.2.1 102 = .ok (.goto (-86), 3) := by decide +kernel
theorem zd117_105 : decode zxm117.2.1 105 = .ok (.iconst 1, 1) := by decide +kernel
theorem zd117_106 : decode zxm117.2.1 106 = .ok (.ireturn, 1) := by decide +kernel
theorem zt_Matcher_narrow {x1 : Int} {x2 : Int} {x3 : Int} {x4 : Int} {g0 : (Int → Int)} {g1 : (Int → Int)} {g2 : (Int → Int)} {o : Int × (Int → Int)} (h : zf_Matcher_narrow x1 x2 x3 x4 g0 g1 g2 = some o) : zv_Fn z_TB z_cl z_KX zy_Matcher_narrow zxm117 (0, 0) [.inr 0, .inl x1, .inl x2, .inl x3, .inl x4] [.inr 2, .inr 4] [g0, g1, g2] (some o.1) [.inr 2, .inr 4] [o.2, g1, g2] := zv_meth (K := (z_KF4, z_KC4, z_KL4, z_KT4, [], [], [], none)) (FT := z_FT) (MT := z_MT) (n := 5) zxp117 (z_ks4 _ (fun _ h => List.mem_cons_of_mem _ h) _ _ _ _ (fun j r h _ => by cases h)) (fun _ _ => zs_KX_p) zyw_Matcher_narrow (fun va F G h => by obtain ⟨rfl, _⟩ := h; rfl) (fun va F G h => by obtain ⟨rfl, _⟩ := h; rfl) rfl fun good va F G hB hret hvret hP => by
  obtain ⟨rfl, rfl, rfl⟩ := hP
  have l0 : ∀ (n : Nat) (x2 : Int) (x3 : Int) (x4 : Int) (x5 : Int) (x6 : Int) (x7 : Int) (g0 : (Int → Int)) (q : (((Int → Int)) ⊕ (Int × (Int → Int)))), zf_Matcher_narrow_l0 x2 x3 x4 x5 x6 g1 g2 n x7 g0 = some q → (Sum.elim (fun e : (Int → Int) => good 105 [.inr 1000, .inr 1000, .inr 1000, .inr 1000, .inr 1000, .inr 1000, .inr 1000, .inr 1000, .inr 1000] [] [.inr 2, .inr 4] [e, g1, g2]) (fun w : Int × (Int → Int) => w = o) q) → good 16 [.inr 0, .inr 1000, .inl x2, .inl x3, .inl x4, .inl x5, .inl x6, .inl x7, .inr 1000] [] [.inr 2, .inr 4] [g0, g1, g2] := by
    intro n
    induction n with
    | zero => intro x2 x3 x4 x5 x6 x7 g0 q h; exact absurd (show none = some q from h) (fun h => by cases h)
    | succ n ih =>
      intro x2 x3 x4 x5 x6 x7 g0 q h hK
      replace h : zf_Matcher_narrow_l0_b x2 x3 x4 x5 x6 g1 g2 (zf_Matcher_narrow_l0 x2 x3 x4 x5 x6 g1 g2 n) x7 g0 = some q := h
      unfold zf_Matcher_narrow_l0_b at h
      refine zv_ild hB zd117_16 rfl rfl ?_
      refine zv_con hB zd117_18 rfl ?_
      refine zv_cge hB zd117_20 rfl (fun hc1 => ?_) (fun hc1 => ?_)
      · rw [if_neg (Int.not_lt.mpr hc1)] at h
        have hq := Option.some.inj h
        subst hq
        refine zv_wk hB (L' := [.inr 1000, .inr 1000, .inr 1000, .inr 1000, .inr 1000, .inr 1000, .inr 1000, .inr 1000, .inr 1000]) (F' := [.inr 2, .inr 4]) ⟨fun (h : zv_is (.inr 1000)) => (Nat.lt_irrefl 1000 h).elim, fun (h : zv_is (.inr 1000)) => (Nat.lt_irrefl 1000 h).elim, fun (h : zv_is (.inr 1000)) => (Nat.lt_irrefl 1000 h).elim, fun (h : zv_is (.inr 1000)) => (Nat.lt_irrefl 1000 h).elim, fun (h : zv_is (.inr 1000)) => (Nat.lt_irrefl 1000 h).elim, fun (h : zv_is (.inr 1000)) => (Nat.lt_irrefl 1000 h).elim, fun (h : zv_is (.inr 1000)) => (Nat.lt_irrefl 1000 h).elim, fun (h : zv_is (.inr 1000)) => (Nat.lt_irrefl 1000 h).elim, fun (h : zv_is (.inr 1000)) => (Nat.lt_irrefl 1000 h).elim, trivial⟩ ⟨fun _ => rfl, fun _ => rfl, trivial⟩ ?_
        exact hK
      · rw [if_pos hc1] at h
        refine zv_ild hB zd117_23 rfl rfl ?_
        refine zv_ild hB zd117_24 rfl rfl ?_
        refine zv_shrw hB zd117_26 ?_
        refine zv_con hB zd117_27 rfl ?_
        refine zv_andw hB zd117_28 ?_
        refine zv_zeq hB zd117_29 rfl (fun hc2 => ?_) (fun hc2 => ?_)
        · rw [if_pos hc2] at h
          refine zv_iincw hB zd117_99 rfl rfl ?_
          refine zv_goto hB zd117_102 rfl ?_
          exact ih _ _ _ _ _ _ _ q h hK
        · rw [if_neg hc2] at h
          refine zv_ald hB zd117_32 rfl rfl rfl ?_
          refine zv_getr hB zd117_33 rfl ?_
          refine zv_ild hB zd117_36 rfl rfl ?_
          refine zv_ild hB zd117_38 rfl rfl ?_
          refine zv_addw hB zd117_40 ?_
          obtain ⟨c3, h⟩ := zi_if h
          refine zv_iald hB zd117_41 rfl rfl (zi_ix_ok c3).1 (zi_ix_ok c3).2 (fun _ _ => ?_)
          refine zv_con hB zd117_42 rfl ?_
          refine zv_ild hB zd117_43 rfl rfl ?_
          refine zv_shlw hB zd117_45 ?_
          refine zv_con hB zd117_46 rfl ?_
          refine zv_xorw hB zd117_47 ?_
          refine zv_andw hB zd117_48 ?_
          refine zv_ist hB zd117_49 rfl rfl rfl ?_
          refine zv_ald hB zd117_51 rfl rfl rfl ?_
          refine zv_getq hB zd117_52 rfl rfl rfl ?_
          refine zv_getr hB zd117_55 rfl ?_
          refine zv_ild hB zd117_58 rfl rfl ?_
          obtain ⟨c4, h⟩ := zi_if h
          refine zv_iald hB zd117_59 rfl rfl (zi_ix_ok c4).1 (zi_ix_ok c4).2 (fun _ _ => ?_)
          refine zv_ild hB zd117_60 rfl rfl ?_
          refine zv_shrw hB zd117_62 ?_
          refine zv_con hB zd117_63 rfl ?_
          refine zv_andw hB zd117_64 ?_
          refine zv_zeq hB zd117_65 rfl (fun hc5 => ?_) (fun hc5 => ?_)
          · rw [if_pos hc5] at h
            refine zv_ild hB zd117_80 rfl rfl ?_
            refine zv_zne hB zd117_82 rfl (fun hc6 => ?_) (fun hc6 => ?_)
            · rw [if_neg hc6] at h
              refine zv_ald hB zd117_87 rfl rfl rfl ?_
              refine zv_getr hB zd117_88 rfl ?_
              refine zv_ild hB zd117_91 rfl rfl ?_
              refine zv_ild hB zd117_93 rfl rfl ?_
              refine zv_addw hB zd117_95 ?_
              refine zv_ild hB zd117_96 rfl rfl ?_
              obtain ⟨c7, h⟩ := zi_if h
              refine zv_iast hB zd117_98 rfl rfl (zi_ix_ok c7).1 (zi_ix_ok c7).2 ?_
              refine zv_iincw hB zd117_99 rfl rfl ?_
              refine zv_goto hB zd117_102 rfl ?_
              refine zv_wk hB (L' := [.inr 0, .inr 1000, .inl x2, .inl x3, .inl x4, .inl x5, .inl x6, .inl (zi_w (x7 + 1)), .inr 1000]) (F' := [.inr 2, .inr 4]) ⟨fun _ => rfl, fun (h : zv_is (.inr 1000)) => (Nat.lt_irrefl 1000 h).elim, fun _ => rfl, fun _ => rfl, fun _ => rfl, fun _ => rfl, fun _ => rfl, fun _ => rfl, fun (h : zv_is (.inr 1000)) => (Nat.lt_irrefl 1000 h).elim, trivial⟩ ⟨fun _ => rfl, fun _ => rfl, trivial⟩ ?_
              exact ih _ _ _ _ _ _ _ q h hK
            · rw [if_pos hc6] at h
              refine zv_con hB zd117_85 rfl ?_
              have hw : (0, g0) = o := zi_rk (Option.some.inj h) hK
              subst hw
              exact hret _ _ _ _ _ zd117_86 (by constructor <;> decide) ⟨rfl, rfl, rfl⟩
          · rw [if_neg hc5] at h
            refine zv_ild hB zd117_68 rfl rfl ?_
            refine zv_ald hB zd117_70 rfl rfl rfl ?_
            refine zv_getq hB zd117_71 rfl rfl rfl ?_
            refine zv_ild hB zd117_74 rfl rfl ?_
            obtain ⟨c8, h⟩ := zi_if h
            refine zv_iald hB zd117_76 rfl rfl (zi_ix_ok c8).1 (zi_ix_ok c8).2 (fun _ _ => ?_)
            refine zv_andw hB zd117_77 ?_
            refine zv_ist hB zd117_78 rfl rfl rfl ?_
            refine zv_ild hB zd117_80 rfl rfl ?_
            refine zv_zne hB zd117_82 rfl (fun hc9 => ?_) (fun hc9 => ?_)
            · rw [if_neg hc9] at h
              refine zv_ald hB zd117_87 rfl rfl rfl ?_
              refine zv_getr hB zd117_88 rfl ?_
              refine zv_ild hB zd117_91 rfl rfl ?_
              refine zv_ild hB zd117_93 rfl rfl ?_
              refine zv_addw hB zd117_95 ?_
              refine zv_ild hB zd117_96 rfl rfl ?_
              obtain ⟨c10, h⟩ := zi_if h
              refine zv_iast hB zd117_98 rfl rfl (zi_ix_ok c10).1 (zi_ix_ok c10).2 ?_
              refine zv_iincw hB zd117_99 rfl rfl ?_
              refine zv_goto hB zd117_102 rfl ?_
              refine zv_wk hB (L' := [.inr 0, .inr 1000, .inl x2, .inl x3, .inl x4, .inl x5, .inl x6, .inl (zi_w (x7 + 1)), .inr 1000]) (F' := [.inr 2, .inr 4]) ⟨fun _ => rfl, fun (h : zv_is (.inr 1000)) => (Nat.lt_irrefl 1000 h).elim, fun _ => rfl, fun _ => rfl, fun _ => rfl, fun _ => rfl, fun _ => rfl, fun _ => rfl, fun (h : zv_is (.inr 1000)) => (Nat.lt_irrefl 1000 h).elim, trivial⟩ ⟨fun _ => rfl, fun _ => rfl, trivial⟩ ?_
              exact ih _ _ _ _ _ _ _ q h hK
            · rw [if_pos hc9] at h
              refine zv_con hB zd117_85 rfl ?_
              have hw : (0, g0) = o := zi_rk (Option.some.inj h) hK
              subst hw
              exact hret _ _ _ _ _ zd117_86 (by constructor <;> decide) ⟨rfl, rfl, rfl⟩
  unfold zf_Matcher_narrow at h
  refine zv_ild hB zd117_0 rfl rfl ?_
  refine zv_con hB zd117_1 rfl ?_
  refine zv_mulw hB zd117_3 ?_
  refine zv_ist hB zd117_4 rfl rfl rfl ?_
  refine zv_ild hB zd117_6 rfl rfl ?_
  refine zv_con hB zd117_8 rfl ?_
  refine zv_addw hB zd117_10 ?_
  refine zv_ist hB zd117_11 rfl rfl rfl ?_
  refine zv_con hB zd117_13 rfl ?_
  refine zv_ist hB zd117_14 rfl rfl rfl ?_
  obtain ⟨q11, hq11, h⟩ := zi_bind h
  refine zv_wk hB (L' := [.inr 0, .inr 1000, .inl x2, .inl x3, .inl x4, .inl (zi_w (x1 * 8)), .inl (zi_w ((zi_w (x1 * 8)) + 8)), .inl 0, .inr 1000]) (F' := [.inr 2, .inr 4]) ⟨fun _ => rfl, fun (h : zv_is (.inr 1000)) => (Nat.lt_irrefl 1000 h).elim, fun _ => rfl, fun _ => rfl, fun _ => rfl, fun _ => rfl, fun _ => rfl, fun _ => rfl, fun (h : zv_is (.inr 1000)) => (Nat.lt_irrefl 1000 h).elim, trivial⟩ ⟨fun _ => rfl, fun _ => rfl, trivial⟩ ?_
  refine l0 _ _ _ _ _ _ _ _ q11 hq11 ?_
  rcases q11 with e12 | w13
  · replace h := zi_sl h
    show good 105 [.inr 1000, .inr 1000, .inr 1000, .inr 1000, .inr 1000, .inr 1000, .inr 1000, .inr 1000, .inr 1000] [] [.inr 2, .inr 4] [e12, g1, g2]
    refine zv_con hB zd117_105 rfl ?_
    have hw := Option.some.inj h
    subst hw
    exact hret _ _ _ _ _ zd117_106 (by constructor <;> decide) ⟨rfl, rfl, rfl⟩
  · exact Option.some.inj h
/-! Matcher_besides (I)I -/
-- names: 0 Matcher('arg', 0), 1 (0, 24)(0, 8, 4)
-- fields: f0 = 0.joined_; arrays: g0 = 1; out: [('ret', None)]
abbrev zy_Matcher_besides : zNL := (2, [(0, 8)], [(0, 8, 4, 0)], [], [(1, 0, 24, 0)])
theorem zyw_Matcher_besides : zv_wf zy_Matcher_besides = true := by decide +kernel
theorem zye_Matcher_besides : zv_ek2 zy_Matcher_besides = true := by decide +kernel
def zf_Matcher_besides_l0_b (x1 : Int) (g0 : (Int → Int)) (rec : Int → Int → Option (Int)) (x2 : Int) (x3 : Int) : Option (Int) := if x3 < 24 then (if (zi_and (zi_shr x1 x3) 1) = 0 then (rec x2 (zi_w (x3 + 1))) else (cond (zi_ix x3 24) (rec (zi_or x2 (g0 x3)) (zi_w (x3 + 1))) none)) else (some x2)
def zf_Matcher_besides_l0 (x1 : Int) (g0 : (Int → Int)) : Nat → Int → Int → Option (Int)
  | 0, _, _ => none
  | n + 1, x2, x3 => zf_Matcher_besides_l0_b x1 g0 (zf_Matcher_besides_l0 x1 g0 n) x2 x3
def zf_Matcher_besides (x1 : Int) (g0 : (Int → Int)) : Option (Int) := (zf_Matcher_besides_l0 x1 g0 zi_fu 0 0).bind fun q4 => (some q4)
theorem zd119_0 : decode zxm119.2.1 0 = .ok (.iconst 0, 1) := by decide +kernel
theorem zd119_1 : decode zxm119.2.1 1 = .ok (.istore_n 2, 1) := by decide +kernel
theorem zd119_2 : decode zxm119.2.1 2 = .ok (.iconst 0, 1) := by decide +kernel
theorem zd119_3 : decode zxm119.2.1 3 = .ok (.istore_n 3, 1) := by decide +kernel
theorem zd119_4 : decode zxm119.2.1 4 = .ok (.iload_n 3, 1) := by decide +kernel
theorem zd119_5 : decode zxm119.2.1 5 = .ok (.bipush 24, 2) := by decide +kernel
theorem zd119_7 : decode zxm119.2.1 7 = .ok (.if_icmp .ge 26, 3) := by decide +kernel
theorem zd119_10 : decode zxm119.2.1 10 = .ok (.iload_n 1, 1) := by decide +kernel
theorem zd119_11 : decode zxm119.2.1 11 = .ok (.iload_n 3, 1) := by decide +kernel
theorem zd119_12 : decode zxm119.2.1 12 = .ok (.ishr, 1) := by decide +kernel
theorem zd119_13 : decode zxm119.2.1 13 = .ok (.iconst 1, 1) := by decide +kernel
theorem zd119_14 : decode zxm119.2.1 14 = .ok (.iand, 1) := by decide +kernel
theorem zd119_15 : decode zxm119.2.1 15 = .ok (.ifCond .eq 12, 3) := by decide +kernel
theorem zd119_18 : decode zxm119.2.1 18 = .ok (.iload_n 2, 1) := by decide +kernel
theorem zd119_19 : decode zxm119.2.1 19 = .ok (.aload_n 0, 1) := by decide +kernel
theorem zd119_20 : decode zxm119.2.1 20 = .ok (.getfield 34, 3) := by decide +kernel
theorem zd119_23 : decode zxm119.2.1 23 = .ok (.iload_n 3, 1) := by decide +kernel
theorem zd119_24 : decode zxm119.2.1 24 = .ok (.iaload, 1) := by decide +kernel
theorem zd119_25 : decode zxm119.2.1 25 = .ok (.ior, 1) := by decide +kernel
theorem zd119_26 : decode zxm119.2.1 26 = .ok (.istore_n 2, 1) := by decide +kernel
theorem zd119_27 : decode zxm119.2.1 27 = .ok (.iinc 3 1, 3) := by decide +kernel
theorem zd119_30 : decode zxm119.2.1 30 = .ok (.goto (-26), 3) := by decide +kernel
theorem zd119_33 : decode zxm119.2.1 33 = .ok (.iload_n 2, 1) := by decide +kernel
theorem zd119_34 : decode zxm119.2.1 34 = .ok (.ireturn, 1) := by decide +kernel
theorem zt_Matcher_besides {x1 : Int} {g0 : (Int → Int)} {o : Int} (h : zf_Matcher_besides x1 g0 = some o) : zv_Fn z_TB z_cl z_KX zy_Matcher_besides zxm119 (0, 0) [.inr 0, .inl x1] [.inr 1] [g0] (some o) [.inr 1] [g0] := zv_meth (K := (z_KF4, z_KC4, z_KL4, z_KT4, [], [], [], none)) (FT := z_FT) (MT := z_MT) (n := 2) zxp119 (z_ks4 _ (fun _ h => List.mem_cons_of_mem _ h) _ _ _ _ (fun j r h _ => by cases h)) (fun _ _ => zs_KX_p) zyw_Matcher_besides (fun va F G h => by obtain ⟨rfl, _⟩ := h; rfl) (fun va F G h => by obtain ⟨rfl, _⟩ := h; rfl) rfl fun good va F G hB hret hvret hP => by
  obtain ⟨rfl, rfl, rfl⟩ := hP
  have l0 : ∀ (n : Nat) (x1 : Int) (x2 : Int) (x3 : Int) (q : Int), zf_Matcher_besides_l0 x1 g0 n x2 x3 = some q → (good 33 [.inr 1000, .inr 1000, .inl q, .inr 1000] [] [.inr 1] [g0]) → good 4 [.inr 0, .inl x1, .inl x2, .inl x3] [] [.inr 1] [g0] := by
    intro n
    induction n with
    | zero => intro x1 x2 x3 q h; exact absurd (show none = some q from h) (fun h => by cases h)
    | succ n ih =>
      intro x1 x2 x3 q h hK
      replace h : zf_Matcher_besides_l0_b x1 g0 (zf_Matcher_besides_l0 x1 g0 n) x2 x3 = some q := h
      unfold zf_Matcher_besides_l0_b at h
      refine zv_ild hB zd119_4 rfl rfl ?_
      refine zv_con hB zd119_5 rfl ?_
      refine zv_cge hB zd119_7 rfl (fun hc1 => ?_) (fun hc1 => ?_)
      · rw [if_neg (Int.not_lt.mpr hc1)] at h
        have hq := Option.some.inj h
        subst hq
        refine zv_wk hB (L' := [.inr 1000, .inr 1000, .inl x2, .inr 1000]) (F' := [.inr 1]) ⟨fun (h : zv_is (.inr 1000)) => (Nat.lt_irrefl 1000 h).elim, fun (h : zv_is (.inr 1000)) => (Nat.lt_irrefl 1000 h).elim, fun _ => rfl, fun (h : zv_is (.inr 1000)) => (Nat.lt_irrefl 1000 h).elim, trivial⟩ ⟨fun _ => rfl, trivial⟩ ?_
        exact hK
      · rw [if_pos hc1] at h
        refine zv_ild hB zd119_10 rfl rfl ?_
        refine zv_ild hB zd119_11 rfl rfl ?_
        refine zv_shrw hB zd119_12 ?_
        refine zv_con hB zd119_13 rfl ?_
        refine zv_andw hB zd119_14 ?_
        refine zv_zeq hB zd119_15 rfl (fun hc2 => ?_) (fun hc2 => ?_)
        · rw [if_pos hc2] at h
          refine zv_iincw hB zd119_27 rfl rfl ?_
          refine zv_goto hB zd119_30 rfl ?_
          exact ih _ _ _ q h hK
        · rw [if_neg hc2] at h
          refine zv_ild hB zd119_18 rfl rfl ?_
          refine zv_ald hB zd119_19 rfl rfl rfl ?_
          refine zv_getq hB zd119_20 rfl rfl rfl ?_
          refine zv_ild hB zd119_23 rfl rfl ?_
          obtain ⟨c3, h⟩ := zi_if h
          refine zv_iald hB zd119_24 rfl rfl (zi_ix_ok c3).1 (zi_ix_ok c3).2 (fun _ _ => ?_)
          refine zv_orw hB zd119_25 ?_
          refine zv_ist hB zd119_26 rfl rfl rfl ?_
          refine zv_iincw hB zd119_27 rfl rfl ?_
          refine zv_goto hB zd119_30 rfl ?_
          exact ih _ _ _ q h hK
  unfold zf_Matcher_besides at h
  refine zv_con hB zd119_0 rfl ?_
  refine zv_ist hB zd119_1 rfl rfl rfl ?_
  refine zv_con hB zd119_2 rfl ?_
  refine zv_ist hB zd119_3 rfl rfl rfl ?_
  obtain ⟨q4, hq4, h⟩ := zi_bind h
  refine l0 _ _ _ _ q4 hq4 ?_
  show good 33 [.inr 1000, .inr 1000, .inl q4, .inr 1000] [] [.inr 1] [g0]
  refine zv_ild hB zd119_33 rfl rfl ?_
  have hw := Option.some.inj h
  subst hw
  exact hret _ _ _ _ _ zd119_34 (by trivial) ⟨rfl, rfl, rfl⟩
/-! Matcher_agree (II)Z -/
-- names: 0 Matcher('arg', 0), 1 Tale(0, 8, 3), 2 (0, 8)(1, 6, 2), 3 (0, 72)(0, 8, 0), 4 (0, 24)(0, 8, 4)
-- fields: f0 = 0.tale_, f1 = 0.joined_; arrays: g0 = 2, g1 = 3, g2 = 4; out: [('ret', None), ('g', 1)]
abbrev zy_Matcher_agree : zNL := (5, [(0, 8), (1, 6)], [(0, 8, 3, 0), (0, 8, 4, 1)], [(1, 6, 2, 2), (0, 8, 0, 3)], [(2, 0, 8, 0), (3, 0, 72, 1), (4, 0, 24, 2)])
theorem zyw_Matcher_agree : zv_wf zy_Matcher_agree = true := by decide +kernel
theorem zye_Matcher_agree : zv_ek2 zy_Matcher_agree = true := by decide +kernel
def zf_Matcher_agree_l2_b (x3 : Int) (x7 : Int) (g1 : (Int → Int)) (g2 : (Int → Int)) (rec : Int → Int → Option (Int)) (x8 : Int) (x9 : Int) : Option (Int) := if x9 < 8 then (if (zi_and (zi_shr x7 x9) 1) = 0 then (rec x8 (zi_w (x9 + 1))) else (cond (zi_ix (zi_w (x3 + x9)) 72) ((zf_Matcher_besides (g1 (zi_w (x3 + x9))) g2).bind fun r10 => (rec (zi_and x8 r10) (zi_w (x9 + 1)))) none)) else (some x8)
def zf_Matcher_agree_l2 (x3 : Int) (x7 : Int) (g1 : (Int → Int)) (g2 : (Int → Int)) : Nat → Int → Int → Option (Int)
  | 0, _, _ => none
  | n + 1, x8, x9 => zf_Matcher_agree_l2_b x3 x7 g1 g2 (zf_Matcher_agree_l2 x3 x7 g1 g2 n) x8 x9
def zf_Matcher_agree_l1_b (x2 : Int) (x3 : Int) (g0 : (Int → Int)) (g2 : (Int → Int)) (rec : Int → Int → (Int → Int) → Option (((Int × (Int → Int)) ⊕ (Int × (Int → Int))))) (x4 : Int) (x6 : Int) (g1 : (Int → Int)) : Option (((Int × (Int → Int)) ⊕ (Int × (Int → Int)))) := if x6 < 8 then (if (zi_and (zi_shr x2 x6) 1) = 0 then (cond (zi_ix (zi_w (x3 + x6)) 72) ((zf_Matcher_agree_l2 x3 0 g1 g2 zi_fu (g1 (zi_w (x3 + x6))) 0).bind fun q19 => (if x4 = 0 then (if q19 = (g1 (zi_w (x3 + x6))) then (rec 0 (zi_w (x6 + 1)) (zv_up g1 (zi_w (x3 + x6)) q19)) else (rec 1 (zi_w (x6 + 1)) (zv_up g1 (zi_w (x3 + x6)) q19))) else (rec 1 (zi_w (x6 + 1)) (zv_up g1 (zi_w (x3 + x6)) q19)))) none) else (cond (zi_ix x6 8) (cond (zi_ix (zi_w (x3 + x6)) 72) ((zf_Matcher_agree_l2 x3 (zi_and (g0 x6) x2) g1 g2 zi_fu (g1 (zi_w (x3 + x6))) 0).bind fun q11 => (if (zi_and (g0 x6) x2) = 0 then (if x4 = 0 then (if q11 = (g1 (zi_w (x3 + x6))) then (rec 0 (zi_w (x6 + 1)) (zv_up g1 (zi_w (x3 + x6)) q11)) else (rec 1 (zi_w (x6 + 1)) (zv_up g1 (zi_w (x3 + x6)) q11))) else (rec 1 (zi_w (x6 + 1)) (zv_up g1 (zi_w (x3 + x6)) q11))) else (if q11 = 0 then (some (.inr (0, g1))) else (if x4 = 0 then (if q11 = (g1 (zi_w (x3 + x6))) then (rec 0 (zi_w (x6 + 1)) (zv_up g1 (zi_w (x3 + x6)) q11)) else (rec 1 (zi_w (x6 + 1)) (zv_up g1 (zi_w (x3 + x6)) q11))) else (rec 1 (zi_w (x6 + 1)) (zv_up g1 (zi_w (x3 + x6)) q11)))))) none) none)) else (some (.inl (x4, g1)))
def zf_Matcher_agree_l1 (x2 : Int) (x3 : Int) (g0 : (Int → Int)) (g2 : (Int → Int)) : Nat → Int → Int → (Int → Int) → Option (((Int × (Int → Int)) ⊕ (Int × (Int → Int))))
  | 0, _, _, _ => none
  | n + 1, x4, x6, g1 => zf_Matcher_agree_l1_b x2 x3 g0 g2 (zf_Matcher_agree_l1 x2 x3 g0 g2 n) x4 x6 g1
def zf_Matcher_agree_l0_b (x2 : Int) (x3 : Int) (g0 : (Int → Int)) (g2 : (Int → Int)) (rec : Int → Int → (Int → Int) → Option ((((Int → Int)) ⊕ (Int × (Int → Int))))) (x4 : Int) (x5 : Int) (g1 : (Int → Int)) : Option ((((Int → Int)) ⊕ (Int × (Int → Int)))) := if x5 < 192 then (if x4 = 0 then (some (.inl g1)) else ((zf_Matcher_agree_l1 x2 x3 g0 g2 zi_fu 0 0 g1).bind fun q23 => Sum.elim (fun e24 => (rec e24.1 (zi_w (x5 + 1)) e24.2)) (fun w25 => some (.inr w25)) q23)) else (some (.inl g1))
def zf_Matcher_agree_l0 (x2 : Int) (x3 : Int) (g0 : (Int → Int)) (g2 : (Int → Int)) : Nat → Int → Int → (Int → Int) → Option ((((Int → Int)) ⊕ (Int × (Int → Int))))
  | 0, _, _, _ => none
  | n + 1, x4, x5, g1 => zf_Matcher_agree_l0_b x2 x3 g0 g2 (zf_Matcher_agree_l0 x2 x3 g0 g2 n) x4 x5 g1
def zf_Matcher_agree (x1 : Int) (x2 : Int) (g0 : (Int → Int)) (g1 : (Int → Int)) (g2 : (Int → Int)) : Option (Int × (Int → Int)) := (zf_Matcher_agree_l0 x2 (zi_w (x1 * 8)) g0 g2 zi_fu 1 0 g1).bind fun q26 => Sum.elim (fun e27 => (some (1, e27))) (fun w28 => some w28) q26
theorem zd118_0 : decode zxm118.2.1 0 = .ok (.iload_n 1, 1) := by decide +kernel
theorem zd118_1 : decode zxm118.2.1 1 = .ok (.bipush 8, 2) := by decide +kernel
theorem zd118_3 : decode zxm118.2.1 3 = .ok (.imul, 1) := by decide +kernel
theorem zd118_4 : decode zxm118.2.1 4 = .ok (.istore_n 3, 1) := by decide +kernel
theorem zd118_5 : decode zxm118.2.1 5 = .ok (.iconst 1, 1) := by decide +kernel
theorem zd118_6 : decode zxm118.2.1 6 = .ok (.istore 4, 2) := by decide +kernel
theorem zd118_8 : decode zxm118.2.1 8 = .ok (.iconst 0, 1) := by decide +kernel
theorem zd118_9 : decode zxm118.2.1 9 = .ok (.istore 5, 2) := by decide +kernel
theorem zd118_11 : decode zxm118.2.1 11 = .ok (.iload 5, 2) := by decide +kernel
theorem zd118_13 : decode zxm118.2.1 13 = .ok (.sipush 192, 3) := by decide +kernel
theorem zd118_16 : decode zxm118.2.1 16 = .ok (.if_icmp .ge 164, 3) := by decide +kernel
theorem zd118_19 : decode zxm118.2.1 19 = .ok (.iload 4, 2) := by decide +kernel
theorem zd118_21 : decode zxm118.2.1 21 = .ok (.ifCond .eq 159, 3) := by decide +kernel
theorem zd118_24 : decode zxm118.2.1 24 = .ok (.iconst 0, 1) := by decide +kernel
theorem zd118_25 : decode zxm118.2.1 25 = .ok (.istore 4, 2) := by decide +kernel
theorem zd118_27 : decode zxm118.2.1 27 = .ok (.iconst 0, 1) := by decide +kernel
theorem zd118_28 : decode zxm118.2.1 28 = .ok (.istore 6, 2) := by decide +kernel
theorem zd118_30 : decode zxm118.2.1 30 = .ok (.iload 6, 2) := by decide +kernel
theorem zd118_32 : decode zxm118.2.1 32 = .ok (.bipush 8, 2) := by decide +kernel
theorem zd118_34 : decode zxm118.2.1 34 = .ok (.if_icmp .ge 140, 3) := by decide +kernel
theorem zd118_37 : decode zxm118.2.1 37 = .ok (.iload_n 2, 1) := by decide +kernel
theorem zd118_38 : decode zxm118.2.1 38 = .ok (.iload 6, 2) := by decide +kernel
theorem zd118_40 : decode zxm118.2.1 40 = .ok (.ishr, 1) := by decide +kernel
theorem zd118_41 : decode zxm118.2.1 41 = .ok (.iconst 1, 1) := by decide +kernel
theorem zd118_42 : decode zxm118.2.1 42 = .ok (.iand, 1) := by decide +kernel
theorem zd118_43 : decode zxm118.2.1 43 = .ok (.ifCond .ne 7, 3) := by decide +kernel
theorem zd118_46 : decode zxm118.2.1 46 = .ok (.iconst 0, 1) := by decide +kernel
theorem zd118_47 : decode zxm118.2.1 47 = .ok (.goto 15, 3) := by decide +kernel
theorem zd118_50 : decode zxm118.2.1 50 = .ok (.aload_n 0, 1) := by decide +kernel
theorem zd118_51 : decode zxm118.2.1 51 = .ok (.getfield 30, 3) := by decide +kernel
theorem zd118_54 : decode zxm118.2.1 54 = .ok (.getfield 52, 3) := by decide +kernel
theorem zd118_57 : decode zxm118.2.1 57 = .ok (.iload 6, 2) := by decide +kernel
theorem zd118_59 : decode zxm118.2.1 59 = .ok (.iaload, 1) := by decide +kernel
theorem zd118_60 : decode zxm118.2.1 60 = .ok (.iload_n 2, 1) := by decide +kernel
theorem zd118_61 : decode zxm118.2.1 61 = .ok (.iand, 1) := by decide +kernel
theorem zd118_62 : decode zxm118.2.1 62 = .ok (.istore 7, 2) := by decide +kernel
theorem zd118_64 : decode zxm118.2.1 64 = .ok (.aload_n 0, 1) := by decide +kernel
theorem zd118_65 : decode zxm118.2.1 65 = .ok (.getfield 11, 3) := by decide +kernel
theorem zd118_68 : decode zxm118.2.1 68 = .ok (.iload_n 3, 1) := by decide +kernel
theorem zd118_69 : decode zxm118.2.1 69 = .ok (.iload 6, 2) := by decide +kernel
theorem zd118_71 : decode zxm118.2.1 71 = .ok (.iadd, 1) := by decide +kernel
theorem zd118_72 : decode zxm118.2.1 72 = .ok (.iaload, 1) := by decide +kernel
theorem zd118_73 : decode zxm118.2.1 73 = .ok (.istore 8, 2) := by decide +kernel
theorem zd118_75 : decode zxm118.2.1 75 = .ok (.iconst 0, 1) := by decide +kernel
theorem zd118_76 : decode zxm118.2.1 76 = .ok (.istore 9, 2) := by decide +kernel
theorem zd118_78 : decode zxm118.2.1 78 = .ok (.iload 9, 2) := by decide +kernel
theorem zd118_80 : decode zxm118.2.1 80 = .ok (.bipush 8, 2) := by decide +kernel
theorem zd118_82 : decode zxm118.2.1 82 = .ok (.if_icmp .ge 37, 3) := by decide +kernel
theorem zd118_85 : decode zxm118.2.1 85 = .ok (.iload 7, 2) := by decide +kernel
theorem zd118_87 : decode zxm118.2.1 87 = .ok (.iload 9, 2) := by decide +kernel
theorem zd118_89 : decode zxm118.2.1 89 = .ok (.ishr, 1) := by decide +kernel
theorem zd118_90 : decode zxm118.2.1 90 = .ok (.iconst 1, 1) := by decide +kernel
theorem zd118_91 : decode zxm118.2.1 91 = .ok (.iand, 1) := by decide +kernel
theorem zd118_92 : decode zxm118.2.1 92 = .ok (.ifCond .eq 21, 3) := by decide +kernel
theorem zd118_95 : decode zxm118.2.1 95 = .ok (.iload 8, 2) := by decide +kernel
theorem zd118_97 : decode zxm118.2.1 97 = .ok (.aload_n 0, 1) := by decide +kernel
theorem zd118_98 : decode zxm118.2.1 98 = .ok (.aload_n 0, 1) := by decide +kernel
theorem zd118_99 : decode zxm118.2.1 99 = .ok (.getfield 11, 3) := by decide +kernel
theorem zd118_102 : decode zxm118.2.1 102 = .ok (.iload_n 3, 1) := by decide +kernel
theorem zd118_103 : decode zxm118.2.1 103 = .ok (.iload 9, 2) := by decide +kernel
theorem zd118_105 : decode zxm118.2.1 105 = .ok (.iadd, 1) := by decide +kernel
theorem zd118_106 : decode zxm118.2.1 106 = .ok (.iaload, 1) := by decide +kernel
theorem zd118_107 : decode zxm118.2.1 107 = .ok (.invokevirtual 81, 3) := by decide +kernel
theorem zd118_110 : decode zxm118.2.1 110 = .ok (.iand, 1) := by decide +kernel
theorem zd118_111 : decode zxm118.2.1 111 = .ok (.istore 8, 2) := by decide +kernel
theorem zd118_113 : decode zxm118.2.1 113 = .ok (.iinc 9 1, 3) := by decide +kernel
theorem zd118_116 : decode zxm118.2.1 116 = .ok (.goto (-38), 3) := by decide +kernel
theorem zd118_119 : decode zxm118.2.1 119 = .ok (.iload 7, 2) := by decide +kernel
theorem zd118_121 : decode zxm118.2.1 121 = .ok (.ifCond .eq 10, 3) := by decide +kernel
theorem zd118_124 : decode zxm118.2.1 124 = .ok (.iload 8, 2) := by decide +kernel
theorem zd118_126 : decode zxm118.2.1 126 = .ok (.ifCond .ne 5, 3) := by decide +kernel
theorem zd118_129 : decode zxm118.2.1 129 = .ok (.iconst 0, 1) := by decide +kernel
theorem zd118_130 : decode zxm118.2.1 130 = .ok (.ireturn, 1) := by decide +kernel
theorem zd118_131 : decode zxm118.2.1 131 = .ok (.iload 4, 2) := by decide +kernel
theorem zd118_133 : decode zxm118.2.1 133 = .ok (.ifCond .ne 17, 3) := by decide +kernel
theorem zd118_136 : decode zxm118.2.1 136 = .ok (.iload 8, 2) := by decide +kernel
theorem zd118_138 : decode zxm118.2.1 138 = .ok (.aload_n 0, 1) := by decide +kernel
theorem zd118_139 : decode zxm118.2.1 139 = .ok (.getfield 11, 3) := by decide +kernel
theorem zd118_142 : decode zxm118.2.1 142 = .ok (.iload_n 3, 1) := by decide +kernel
theorem zd118_143 : decode zxm118.2.1 143 = .ok (.iload 6, 2) := by decide +kernel
theorem zd118_145 : decode zxm118.2.1 145 = .ok (.iadd, 1) := by decide +kernel
theorem zd118_146 : decode zxm118.2.1 146 = .ok (.iaload, 1) := by decide +kernel
theorem zd118_147 : decode zxm118.2.1 147 = .ok (.if_icmp .eq 7, 3) := by decide +kernel
theorem zd118_150 : decode zxm118.2.1 150 = .ok (.iconst 1, 1) := by decide +kernel
theorem zd118_151 : decode zxm118.2.1 151 = .ok (.goto 4, 3) := by decide +kernel
theorem zd118_154 : decode zxm118.2.1 154 = .ok (.iconst 0, 1) := by decide +kernel
theorem zd118_155 : decode zxm118.2.1 155 = .ok (.istore 4, 2) := by decide +kernel
theorem zd118_157 : decode zxm118.2.1 157 = .ok (.aload_n 0, 1) := by decide +kernel
theorem zd118_158 : decode zxm118.2.1 158 = .ok (.getfield 11, 3) := by decide +kernel
theorem zd118_161 : decode zxm118.2.1 161 = .ok (.iload_n 3, 1) := by decide +kernel
theorem zd118_162 : decode zxm118.2.1 162 = .ok (.iload 6, 2) := by decide +kernel
theorem zd118_164 : decode zxm118.2.1 164 = .ok (.iadd, 1) := by decide +kernel
theorem zd118_165 : decode zxm118.2.1 165 = .ok (.iload 8, 2) := by decide +kernel
theorem zd118_167 : decode zxm118.2.1 167 = .ok (.iastore, 1) := by decide +kernel
theorem zd118_168 : decode zxm118.2.1 168 = .ok (.iinc 6 1, 3) := by decide +kernel
theorem zd118_171 : decode zxm118.2.1 171 = .ok (.goto (-141), 3) := by decide +kernel
theorem zd118_174 : decode zxm118.2.1 174 = .ok (.iinc 5 1, 3) := by decide +kernel
theorem zd118_177 : decode zxm118.2.1 177 = .ok (.goto (-166), 3) := by decide +kernel
theorem zd118_180 : decode zxm118.2.1 180 = .ok (.iconst 1, 1) := by decide +kernel
theorem zd118_181 : decode zxm118.2.1 181 = .ok (.ireturn, 1) := by decide +kernel
theorem zt_Matcher_agree {x1 : Int} {x2 : Int} {g0 : (Int → Int)} {g1 : (Int → Int)} {g2 : (Int → Int)} {o : Int × (Int → Int)} (h : zf_Matcher_agree x1 x2 g0 g1 g2 = some o) : zv_Fn z_TB z_cl z_KX zy_Matcher_agree zxm118 (1, 60) [.inr 0, .inl x1, .inl x2] [.inr 1, .inr 4] [g0, g1, g2] (some o.1) [.inr 1, .inr 4] [g0, o.2, g2] := zv_meth (K := (z_KF4, z_KC4, z_KL4, z_KT4, [], [], [], none)) (FT := z_FT) (MT := z_MT) (n := 3) zxp118 (z_ks4 _ (fun _ h => List.mem_cons_of_mem _ h) _ _ _ _ (fun j r h _ => by cases h)) (fun _ _ => zs_KX_p) zyw_Matcher_agree (fun va F G h => by obtain ⟨rfl, _⟩ := h; rfl) (fun va F G h => by obtain ⟨rfl, _⟩ := h; rfl) rfl fun good va F G hB hret hvret hP => by
  obtain ⟨rfl, rfl, rfl⟩ := hP
  have l2 : ∀ (n : Nat) (x2 : Int) (x3 : Int) (x4 : Int) (x5 : Int) (x6 : Int) (x7 : Int) (x8 : Int) (x9 : Int) (g1 : (Int → Int)) (q : Int), zf_Matcher_agree_l2 x3 x7 g1 g2 n x8 x9 = some q → (good 119 [.inr 0, .inr 1000, .inl x2, .inl x3, .inl x4, .inl x5, .inl x6, .inl x7, .inl q, .inr 1000] [] [.inr 1, .inr 4] [g0, g1, g2]) → good 78 [.inr 0, .inr 1000, .inl x2, .inl x3, .inl x4, .inl x5, .inl x6, .inl x7, .inl x8, .inl x9] [] [.inr 1, .inr 4] [g0, g1, g2] := by
    intro n
    induction n with
    | zero => intro x2 x3 x4 x5 x6 x7 x8 x9 g1 q h; exact absurd (show none = some q from h) (fun h => by cases h)
    | succ n ih =>
      intro x2 x3 x4 x5 x6 x7 x8 x9 g1 q h hK
      replace h : zf_Matcher_agree_l2_b x3 x7 g1 g2 (zf_Matcher_agree_l2 x3 x7 g1 g2 n) x8 x9 = some q := h
      unfold zf_Matcher_agree_l2_b at h
      refine zv_ild hB zd118_78 rfl rfl ?_
      refine zv_con hB zd118_80 rfl ?_
      refine zv_cge hB zd118_82 rfl (fun hc7 => ?_) (fun hc7 => ?_)
      · rw [if_neg (Int.not_lt.mpr hc7)] at h
        have hq := Option.some.inj h
        subst hq
        refine zv_wk hB (L' := [.inr 0, .inr 1000, .inl x2, .inl x3, .inl x4, .inl x5, .inl x6, .inl x7, .inl x8, .inr 1000]) (F' := [.inr 1, .inr 4]) ⟨fun _ => rfl, fun (h : zv_is (.inr 1000)) => (Nat.lt_irrefl 1000 h).elim, fun _ => rfl, fun _ => rfl, fun _ => rfl, fun _ => rfl, fun _ => rfl, fun _ => rfl, fun _ => rfl, fun (h : zv_is (.inr 1000)) => (Nat.lt_irrefl 1000 h).elim, trivial⟩ ⟨fun _ => rfl, fun _ => rfl, trivial⟩ ?_
        exact hK
      · rw [if_pos hc7] at h
        refine zv_ild hB zd118_85 rfl rfl ?_
        refine zv_ild hB zd118_87 rfl rfl ?_
        refine zv_shrw hB zd118_89 ?_
        refine zv_con hB zd118_90 rfl ?_
        refine zv_andw hB zd118_91 ?_
        refine zv_zeq hB zd118_92 rfl (fun hc8 => ?_) (fun hc8 => ?_)
        · rw [if_pos hc8] at h
          refine zv_iincw hB zd118_113 rfl rfl ?_
          refine zv_goto hB zd118_116 rfl ?_
          exact ih _ _ _ _ _ _ _ _ _ q h hK
        · rw [if_neg hc8] at h
          refine zv_ild hB zd118_95 rfl rfl ?_
          refine zv_ald hB zd118_97 rfl rfl rfl ?_
          refine zv_ald hB zd118_98 rfl rfl rfl ?_
          refine zv_getr hB zd118_99 rfl ?_
          refine zv_ild hB zd118_102 rfl rfl ?_
          refine zv_ild hB zd118_103 rfl rfl ?_
          refine zv_addw hB zd118_105 ?_
          obtain ⟨c9, h⟩ := zi_if h
          refine zv_iald hB zd118_106 rfl rfl (zi_ix_ok c9).1 (zi_ix_ok c9).2 (fun _ _ => ?_)
          obtain ⟨r10, hr10, h⟩ := zi_bind h
          refine zv_cv hB (zv_emq (va2 := [.inr 0, .inl (g1 (zi_w (x3 + x9)))]) (F := [.inr 1, .inr 4]) (F' := [.inr 1, .inr 4]) (G := [g0, g1, g2]) (G' := [g0, g1, g2]) (ρ := [0, 4]) (φ := [1]) (ψ := [2]) [none, some 0] [none, none, some 0] zyw_Matcher_besides zyw_Matcher_agree zye_Matcher_agree (by decide +kernel) (zt_Matcher_besides hr10) ⟨⟨_, rfl, fun _ => rfl⟩, trivial⟩ ⟨rfl, trivial⟩ rfl rfl rfl rfl rfl rfl rfl) zd118_107 zxt119 rfl (by decide) (by decide) rfl ?_
          refine zv_andw hB zd118_110 ?_
          refine zv_ist hB zd118_111 rfl rfl rfl ?_
          refine zv_iincw hB zd118_113 rfl rfl ?_
          refine zv_goto hB zd118_116 rfl ?_
          exact ih _ _ _ _ _ _ _ _ _ q h hK
  have l1 : ∀ (n : Nat) (x2 : Int) (x3 : Int) (x4 : Int) (x5 : Int) (x6 : Int) (g1 : (Int → Int)) (q : ((Int × (Int → Int)) ⊕ (Int × (Int → Int)))), zf_Matcher_agree_l1 x2 x3 g0 g2 n x4 x6 g1 = some q → (Sum.elim (fun e : Int × (Int → Int) => good 174 [.inr 0, .inr 1000, .inl x2, .inl x3, .inl e.1, .inl x5, .inr 1000, .inr 1000, .inr 1000, .inr 1000] [] [.inr 1, .inr 4] [g0, e.2, g2]) (fun w : Int × (Int → Int) => w = o) q) → good 30 [.inr 0, .inr 1000, .inl x2, .inl x3, .inl x4, .inl x5, .inl x6, .inr 1000, .inr 1000, .inr 1000] [] [.inr 1, .inr 4] [g0, g1, g2] := by
    intro n
    induction n with
    | zero => intro x2 x3 x4 x5 x6 g1 q h; exact absurd (show none = some q from h) (fun h => by cases h)
    | succ n ih =>
      intro x2 x3 x4 x5 x6 g1 q h hK
      replace h : zf_Matcher_agree_l1_b x2 x3 g0 g2 (zf_Matcher_agree_l1 x2 x3 g0 g2 n) x4 x6 g1 = some q := h
      unfold zf_Matcher_agree_l1_b at h
      refine zv_ild hB zd118_30 rfl rfl ?_
      refine zv_con hB zd118_32 rfl ?_
      refine zv_cge hB zd118_34 rfl (fun hc3 => ?_) (fun hc3 => ?_)
      · rw [if_neg (Int.not_lt.mpr hc3)] at h
        have hq := Option.some.inj h
        subst hq
        refine zv_wk hB (L' := [.inr 0, .inr 1000, .inl x2, .inl x3, .inl x4, .inl x5, .inr 1000, .inr 1000, .inr 1000, .inr 1000]) (F' := [.inr 1, .inr 4]) ⟨fun _ => rfl, fun (h : zv_is (.inr 1000)) => (Nat.lt_irrefl 1000 h).elim, fun _ => rfl, fun _ => rfl, fun _ => rfl, fun _ => rfl, fun (h : zv_is (.inr 1000)) => (Nat.lt_irrefl 1000 h).elim, fun (h : zv_is (.inr 1000)) => (Nat.lt_irrefl 1000 h).elim, fun (h : zv_is (.inr 1000)) => (Nat.lt_irrefl 1000 h).elim, fun (h : zv_is (.inr 1000)) => (Nat.lt_irrefl 1000 h).elim, trivial⟩ ⟨fun _ => rfl, fun _ => rfl, trivial⟩ ?_
        exact hK
      · rw [if_pos hc3] at h
        refine zv_ild hB zd118_37 rfl rfl ?_
        refine zv_ild hB zd118_38 rfl rfl ?_
        refine zv_shrw hB zd118_40 ?_
        refine zv_con hB zd118_41 rfl ?_
        refine zv_andw hB zd118_42 ?_
        refine zv_zne hB zd118_43 rfl (fun hc4 => ?_) (fun hc4 => ?_)
        · rw [if_neg hc4] at h
          refine zv_ald hB zd118_50 rfl rfl rfl ?_
          refine zv_getq hB zd118_51 rfl rfl rfl ?_
          refine zv_getr hB zd118_54 rfl ?_
          refine zv_ild hB zd118_57 rfl rfl ?_
          obtain ⟨c5, h⟩ := zi_if h
          refine zv_iald hB zd118_59 rfl rfl (zi_ix_ok c5).1 (zi_ix_ok c5).2 (fun _ _ => ?_)
          refine zv_ild hB zd118_60 rfl rfl ?_
          refine zv_andw hB zd118_61 ?_
          refine zv_ist hB zd118_62 rfl rfl rfl ?_
          refine zv_ald hB zd118_64 rfl rfl rfl ?_
          refine zv_getr hB zd118_65 rfl ?_
          refine zv_ild hB zd118_68 rfl rfl ?_
          refine zv_ild hB zd118_69 rfl rfl ?_
          refine zv_addw hB zd118_71 ?_
          obtain ⟨c6, h⟩ := zi_if h
          refine zv_iald hB zd118_72 rfl rfl (zi_ix_ok c6).1 (zi_ix_ok c6).2 (fun _ _ => ?_)
          refine zv_ist hB zd118_73 rfl rfl rfl ?_
          refine zv_con hB zd118_75 rfl ?_
          refine zv_ist hB zd118_76 rfl rfl rfl ?_
          obtain ⟨q11, hq11, h⟩ := zi_bind h
          refine l2 _ _ _ _ _ _ _ _ _ _ q11 hq11 ?_
          show good 119 [.inr 0, .inr 1000, .inl x2, .inl x3, .inl x4, .inl x5, .inl x6, .inl (zi_and (g0 x6) x2), .inl q11, .inr 1000] [] [.inr 1, .inr 4] [g0, g1, g2]
          refine zv_ild hB zd118_119 rfl rfl ?_
          refine zv_zeq hB zd118_121 rfl (fun hc12 => ?_) (fun hc12 => ?_)
          · rw [if_pos hc12] at h
            refine zv_ild hB zd118_131 rfl rfl ?_
            refine zv_zne hB zd118_133 rfl (fun hc13 => ?_) (fun hc13 => ?_)
            · rw [if_neg hc13] at h
              refine zv_con hB zd118_150 rfl ?_
              refine zv_goto hB zd118_151 rfl ?_
              refine zv_ist hB zd118_155 rfl rfl rfl ?_
              refine zv_ald hB zd118_157 rfl rfl rfl ?_
              refine zv_getr hB zd118_158 rfl ?_
              refine zv_ild hB zd118_161 rfl rfl ?_
              refine zv_ild hB zd118_162 rfl rfl ?_
              refine zv_addw hB zd118_164 ?_
              refine zv_ild hB zd118_165 rfl rfl ?_
              refine zv_iast hB zd118_167 rfl rfl (zi_ix_ok c6).1 (zi_ix_ok c6).2 ?_
              refine zv_iincw hB zd118_168 rfl rfl ?_
              refine zv_goto hB zd118_171 rfl ?_
              refine zv_wk hB (L' := [.inr 0, .inr 1000, .inl x2, .inl x3, .inl 1, .inl x5, .inl (zi_w (x6 + 1)), .inr 1000, .inr 1000, .inr 1000]) (F' := [.inr 1, .inr 4]) ⟨fun _ => rfl, fun (h : zv_is (.inr 1000)) => (Nat.lt_irrefl 1000 h).elim, fun _ => rfl, fun _ => rfl, fun _ => rfl, fun _ => rfl, fun _ => rfl, fun (h : zv_is (.inr 1000)) => (Nat.lt_irrefl 1000 h).elim, fun (h : zv_is (.inr 1000)) => (Nat.lt_irrefl 1000 h).elim, fun (h : zv_is (.inr 1000)) => (Nat.lt_irrefl 1000 h).elim, trivial⟩ ⟨fun _ => rfl, fun _ => rfl, trivial⟩ ?_
              exact ih _ _ _ _ _ _ q h hK
            · rw [if_pos hc13] at h
              refine zv_ild hB zd118_136 rfl rfl ?_
              refine zv_ald hB zd118_138 rfl rfl rfl ?_
              refine zv_getr hB zd118_139 rfl ?_
              refine zv_ild hB zd118_142 rfl rfl ?_
              refine zv_ild hB zd118_143 rfl rfl ?_
              refine zv_addw hB zd118_145 ?_
              refine zv_iald hB zd118_146 rfl rfl (zi_ix_ok c6).1 (zi_ix_ok c6).2 (fun _ _ => ?_)
              refine zv_ceq hB zd118_147 rfl (fun hc14 => ?_) (fun hc14 => ?_)
              · rw [if_pos hc14] at h
                refine zv_con hB zd118_154 rfl ?_
                refine zv_ist hB zd118_155 rfl rfl rfl ?_
                refine zv_ald hB zd118_157 rfl rfl rfl ?_
                refine zv_getr hB zd118_158 rfl ?_
                refine zv_ild hB zd118_161 rfl rfl ?_
                refine zv_ild hB zd118_162 rfl rfl ?_
                refine zv_addw hB zd118_164 ?_
                refine zv_ild hB zd118_165 rfl rfl ?_
                refine zv_iast hB zd118_167 rfl rfl (zi_ix_ok c6).1 (zi_ix_ok c6).2 ?_
                refine zv_iincw hB zd118_168 rfl rfl ?_
                refine zv_goto hB zd118_171 rfl ?_
                refine zv_wk hB (L' := [.inr 0, .inr 1000, .inl x2, .inl x3, .inl 0, .inl x5, .inl (zi_w (x6 + 1)), .inr 1000, .inr 1000, .inr 1000]) (F' := [.inr 1, .inr 4]) ⟨fun _ => rfl, fun (h : zv_is (.inr 1000)) => (Nat.lt_irrefl 1000 h).elim, fun _ => rfl, fun _ => rfl, fun _ => rfl, fun _ => rfl, fun _ => rfl, fun (h : zv_is (.inr 1000)) => (Nat.lt_irrefl 1000 h).elim, fun (h : zv_is (.inr 1000)) => (Nat.lt_irrefl 1000 h).elim, fun (h : zv_is (.inr 1000)) => (Nat.lt_irrefl 1000 h).elim, trivial⟩ ⟨fun _ => rfl, fun _ => rfl, trivial⟩ ?_
                exact ih _ _ _ _ _ _ q h hK
              · rw [if_neg hc14] at h
                refine zv_con hB zd118_150 rfl ?_
                refine zv_goto hB zd118_151 rfl ?_
                refine zv_ist hB zd118_155 rfl rfl rfl ?_
                refine zv_ald hB zd118_157 rfl rfl rfl ?_
                refine zv_getr hB zd118_158 rfl ?_
                refine zv_ild hB zd118_161 rfl rfl ?_
                refine zv_ild hB zd118_162 rfl rfl ?_
                refine zv_addw hB zd118_164 ?_
                refine zv_ild hB zd118_165 rfl rfl ?_
                refine zv_iast hB zd118_167 rfl rfl (zi_ix_ok c6).1 (zi_ix_ok c6).2 ?_
                refine zv_iincw hB zd118_168 rfl rfl ?_
                refine zv_goto hB zd118_171 rfl ?_
                refine zv_wk hB (L' := [.inr 0, .inr 1000, .inl x2, .inl x3, .inl 1, .inl x5, .inl (zi_w (x6 + 1)), .inr 1000, .inr 1000, .inr 1000]) (F' := [.inr 1, .inr 4]) ⟨fun _ => rfl, fun (h : zv_is (.inr 1000)) => (Nat.lt_irrefl 1000 h).elim, fun _ => rfl, fun _ => rfl, fun _ => rfl, fun _ => rfl, fun _ => rfl, fun (h : zv_is (.inr 1000)) => (Nat.lt_irrefl 1000 h).elim, fun (h : zv_is (.inr 1000)) => (Nat.lt_irrefl 1000 h).elim, fun (h : zv_is (.inr 1000)) => (Nat.lt_irrefl 1000 h).elim, trivial⟩ ⟨fun _ => rfl, fun _ => rfl, trivial⟩ ?_
                exact ih _ _ _ _ _ _ q h hK
          · rw [if_neg hc12] at h
            refine zv_ild hB zd118_124 rfl rfl ?_
            refine zv_zne hB zd118_126 rfl (fun hc15 => ?_) (fun hc15 => ?_)
            · rw [if_neg hc15] at h
              refine zv_ild hB zd118_131 rfl rfl ?_
              refine zv_zne hB zd118_133 rfl (fun hc16 => ?_) (fun hc16 => ?_)
              · rw [if_neg hc16] at h
                refine zv_con hB zd118_150 rfl ?_
                refine zv_goto hB zd118_151 rfl ?_
                refine zv_ist hB zd118_155 rfl rfl rfl ?_
                refine zv_ald hB zd118_157 rfl rfl rfl ?_
                refine zv_getr hB zd118_158 rfl ?_
                refine zv_ild hB zd118_161 rfl rfl ?_
                refine zv_ild hB zd118_162 rfl rfl ?_
                refine zv_addw hB zd118_164 ?_
                refine zv_ild hB zd118_165 rfl rfl ?_
                refine zv_iast hB zd118_167 rfl rfl (zi_ix_ok c6).1 (zi_ix_ok c6).2 ?_
                refine zv_iincw hB zd118_168 rfl rfl ?_
                refine zv_goto hB zd118_171 rfl ?_
                refine zv_wk hB (L' := [.inr 0, .inr 1000, .inl x2, .inl x3, .inl 1, .inl x5, .inl (zi_w (x6 + 1)), .inr 1000, .inr 1000, .inr 1000]) (F' := [.inr 1, .inr 4]) ⟨fun _ => rfl, fun (h : zv_is (.inr 1000)) => (Nat.lt_irrefl 1000 h).elim, fun _ => rfl, fun _ => rfl, fun _ => rfl, fun _ => rfl, fun _ => rfl, fun (h : zv_is (.inr 1000)) => (Nat.lt_irrefl 1000 h).elim, fun (h : zv_is (.inr 1000)) => (Nat.lt_irrefl 1000 h).elim, fun (h : zv_is (.inr 1000)) => (Nat.lt_irrefl 1000 h).elim, trivial⟩ ⟨fun _ => rfl, fun _ => rfl, trivial⟩ ?_
                exact ih _ _ _ _ _ _ q h hK
              · rw [if_pos hc16] at h
                refine zv_ild hB zd118_136 rfl rfl ?_
                refine zv_ald hB zd118_138 rfl rfl rfl ?_
                refine zv_getr hB zd118_139 rfl ?_
                refine zv_ild hB zd118_142 rfl rfl ?_
                refine zv_ild hB zd118_143 rfl rfl ?_
                refine zv_addw hB zd118_145 ?_
                refine zv_iald hB zd118_146 rfl rfl (zi_ix_ok c6).1 (zi_ix_ok c6).2 (fun _ _ => ?_)
                refine zv_ceq hB zd118_147 rfl (fun hc17 => ?_) (fun hc17 => ?_)
                · rw [if_pos hc17] at h
                  refine zv_con hB zd118_154 rfl ?_
                  refine zv_ist hB zd118_155 rfl rfl rfl ?_
                  refine zv_ald hB zd118_157 rfl rfl rfl ?_
                  refine zv_getr hB zd118_158 rfl ?_
                  refine zv_ild hB zd118_161 rfl rfl ?_
                  refine zv_ild hB zd118_162 rfl rfl ?_
                  refine zv_addw hB zd118_164 ?_
                  refine zv_ild hB zd118_165 rfl rfl ?_
                  refine zv_iast hB zd118_167 rfl rfl (zi_ix_ok c6).1 (zi_ix_ok c6).2 ?_
                  refine zv_iincw hB zd118_168 rfl rfl ?_
                  refine zv_goto hB zd118_171 rfl ?_
                  refine zv_wk hB (L' := [.inr 0, .inr 1000, .inl x2, .inl x3, .inl 0, .inl x5, .inl (zi_w (x6 + 1)), .inr 1000, .inr 1000, .inr 1000]) (F' := [.inr 1, .inr 4]) ⟨fun _ => rfl, fun (h : zv_is (.inr 1000)) => (Nat.lt_irrefl 1000 h).elim, fun _ => rfl, fun _ => rfl, fun _ => rfl, fun _ => rfl, fun _ => rfl, fun (h : zv_is (.inr 1000)) => (Nat.lt_irrefl 1000 h).elim, fun (h : zv_is (.inr 1000)) => (Nat.lt_irrefl 1000 h).elim, fun (h : zv_is (.inr 1000)) => (Nat.lt_irrefl 1000 h).elim, trivial⟩ ⟨fun _ => rfl, fun _ => rfl, trivial⟩ ?_
                  exact ih _ _ _ _ _ _ q h hK
                · rw [if_neg hc17] at h
                  refine zv_con hB zd118_150 rfl ?_
                  refine zv_goto hB zd118_151 rfl ?_
                  refine zv_ist hB zd118_155 rfl rfl rfl ?_
                  refine zv_ald hB zd118_157 rfl rfl rfl ?_
                  refine zv_getr hB zd118_158 rfl ?_
                  refine zv_ild hB zd118_161 rfl rfl ?_
                  refine zv_ild hB zd118_162 rfl rfl ?_
                  refine zv_addw hB zd118_164 ?_
                  refine zv_ild hB zd118_165 rfl rfl ?_
                  refine zv_iast hB zd118_167 rfl rfl (zi_ix_ok c6).1 (zi_ix_ok c6).2 ?_
                  refine zv_iincw hB zd118_168 rfl rfl ?_
                  refine zv_goto hB zd118_171 rfl ?_
                  refine zv_wk hB (L' := [.inr 0, .inr 1000, .inl x2, .inl x3, .inl 1, .inl x5, .inl (zi_w (x6 + 1)), .inr 1000, .inr 1000, .inr 1000]) (F' := [.inr 1, .inr 4]) ⟨fun _ => rfl, fun (h : zv_is (.inr 1000)) => (Nat.lt_irrefl 1000 h).elim, fun _ => rfl, fun _ => rfl, fun _ => rfl, fun _ => rfl, fun _ => rfl, fun (h : zv_is (.inr 1000)) => (Nat.lt_irrefl 1000 h).elim, fun (h : zv_is (.inr 1000)) => (Nat.lt_irrefl 1000 h).elim, fun (h : zv_is (.inr 1000)) => (Nat.lt_irrefl 1000 h).elim, trivial⟩ ⟨fun _ => rfl, fun _ => rfl, trivial⟩ ?_
                  exact ih _ _ _ _ _ _ q h hK
            · rw [if_pos hc15] at h
              refine zv_con hB zd118_129 rfl ?_
              have hw : (0, g1) = o := zi_rk (Option.some.inj h) hK
              subst hw
              exact hret _ _ _ _ _ zd118_130 (by constructor <;> decide) ⟨rfl, rfl, rfl⟩
        · rw [if_pos hc4] at h
          refine zv_con hB zd118_46 rfl ?_
          refine zv_goto hB zd118_47 rfl ?_
          refine zv_ist hB zd118_62 rfl rfl rfl ?_
          refine zv_ald hB zd118_64 rfl rfl rfl ?_
          refine zv_getr hB zd118_65 rfl ?_
          refine zv_ild hB zd118_68 rfl rfl ?_
          refine zv_ild hB zd118_69 rfl rfl ?_
          refine zv_addw hB zd118_71 ?_
          obtain ⟨c18, h⟩ := zi_if h
          refine zv_iald hB zd118_72 rfl rfl (zi_ix_ok c18).1 (zi_ix_ok c18).2 (fun _ _ => ?_)
          refine zv_ist hB zd118_73 rfl rfl rfl ?_
          refine zv_con hB zd118_75 rfl ?_
          refine zv_ist hB zd118_76 rfl rfl rfl ?_
          obtain ⟨q19, hq19, h⟩ := zi_bind h
          refine l2 _ _ _ _ _ _ _ _ _ _ q19 hq19 ?_
          show good 119 [.inr 0, .inr 1000, .inl x2, .inl x3, .inl x4, .inl x5, .inl x6, .inl 0, .inl q19, .inr 1000] [] [.inr 1, .inr 4] [g0, g1, g2]
          refine zv_ild hB zd118_119 rfl rfl ?_
          refine zv_zeq hB zd118_121 rfl (fun _ => ?_) (fun hc => absurd hc (by decide))
          refine zv_ild hB zd118_131 rfl rfl ?_
          refine zv_zne hB zd118_133 rfl (fun hc21 => ?_) (fun hc21 => ?_)
          · rw [if_neg hc21] at h
            refine zv_con hB zd118_150 rfl ?_
            refine zv_goto hB zd118_151 rfl ?_
            refine zv_ist hB zd118_155 rfl rfl rfl ?_
            refine zv_ald hB zd118_157 rfl rfl rfl ?_
            refine zv_getr hB zd118_158 rfl ?_
            refine zv_ild hB zd118_161 rfl rfl ?_
            refine zv_ild hB zd118_162 rfl rfl ?_
            refine zv_addw hB zd118_164 ?_
            refine zv_ild hB zd118_165 rfl rfl ?_
            refine zv_iast hB zd118_167 rfl rfl (zi_ix_ok c18).1 (zi_ix_ok c18).2 ?_
            refine zv_iincw hB zd118_168 rfl rfl ?_
            refine zv_goto hB zd118_171 rfl ?_
            refine zv_wk hB (L' := [.inr 0, .inr 1000, .inl x2, .inl x3, .inl 1, .inl x5, .inl (zi_w (x6 + 1)), .inr 1000, .inr 1000, .inr 1000]) (F' := [.inr 1, .inr 4]) ⟨fun _ => rfl, fun (h : zv_is (.inr 1000)) => (Nat.lt_irrefl 1000 h).elim, fun _ => rfl, fun _ => rfl, fun _ => rfl, fun _ => rfl, fun _ => rfl, fun (h : zv_is (.inr 1000)) => (Nat.lt_irrefl 1000 h).elim, fun (h : zv_is (.inr 1000)) => (Nat.lt_irrefl 1000 h).elim, fun (h : zv_is (.inr 1000)) => (Nat.lt_irrefl 1000 h).elim, trivial⟩ ⟨fun _ => rfl, fun _ => rfl, trivial⟩ ?_
            exact ih _ _ _ _ _ _ q h hK
          · rw [if_pos hc21] at h
            refine zv_ild hB zd118_136 rfl rfl ?_
            refine zv_ald hB zd118_138 rfl rfl rfl ?_
            refine zv_getr hB zd118_139 rfl ?_
            refine zv_ild hB zd118_142 rfl rfl ?_
            refine zv_ild hB zd118_143 rfl rfl ?_
            refine zv_addw hB zd118_145 ?_
            refine zv_iald hB zd118_146 rfl rfl (zi_ix_ok c18).1 (zi_ix_ok c18).2 (fun _ _ => ?_)
            refine zv_ceq hB zd118_147 rfl (fun hc22 => ?_) (fun hc22 => ?_)
            · rw [if_pos hc22] at h
              refine zv_con hB zd118_154 rfl ?_
              refine zv_ist hB zd118_155 rfl rfl rfl ?_
              refine zv_ald hB zd118_157 rfl rfl rfl ?_
              refine zv_getr hB zd118_158 rfl ?_
              refine zv_ild hB zd118_161 rfl rfl ?_
              refine zv_ild hB zd118_162 rfl rfl ?_
              refine zv_addw hB zd118_164 ?_
              refine zv_ild hB zd118_165 rfl rfl ?_
              refine zv_iast hB zd118_167 rfl rfl (zi_ix_ok c18).1 (zi_ix_ok c18).2 ?_
              refine zv_iincw hB zd118_168 rfl rfl ?_
              refine zv_goto hB zd118_171 rfl ?_
              refine zv_wk hB (L' := [.inr 0, .inr 1000, .inl x2, .inl x3, .inl 0, .inl x5, .inl (zi_w (x6 + 1)), .inr 1000, .inr 1000, .inr 1000]) (F' := [.inr 1, .inr 4]) ⟨fun _ => rfl, fun (h : zv_is (.inr 1000)) => (Nat.lt_irrefl 1000 h).elim, fun _ => rfl, fun _ => rfl, fun _ => rfl, fun _ => rfl, fun _ => rfl, fun (h : zv_is (.inr 1000)) => (Nat.lt_irrefl 1000 h).elim, fun (h : zv_is (.inr 1000)) => (Nat.lt_irrefl 1000 h).elim, fun (h : zv_is (.inr 1000)) => (Nat.lt_irrefl 1000 h).elim, trivial⟩ ⟨fun _ => rfl, fun _ => rfl, trivial⟩ ?_
              exact ih _ _ _ _ _ _ q h hK
            · rw [if_neg hc22] at h
              refine zv_con hB zd118_150 rfl ?_
              refine zv_goto hB zd118_151 rfl ?_
              refine zv_ist hB zd118_155 rfl rfl rfl ?_
              refine zv_ald hB zd118_157 rfl rfl rfl ?_
              refine zv_getr hB zd118_158 rfl ?_
              refine zv_ild hB zd118_161 rfl rfl ?_
              refine zv_ild hB zd118_162 rfl rfl ?_
              refine zv_addw hB zd118_164 ?_
              refine zv_ild hB zd118_165 rfl rfl ?_
              refine zv_iast hB zd118_167 rfl rfl (zi_ix_ok c18).1 (zi_ix_ok c18).2 ?_
              refine zv_iincw hB zd118_168 rfl rfl ?_
              refine zv_goto hB zd118_171 rfl ?_
              refine zv_wk hB (L' := [.inr 0, .inr 1000, .inl x2, .inl x3, .inl 1, .inl x5, .inl (zi_w (x6 + 1)), .inr 1000, .inr 1000, .inr 1000]) (F' := [.inr 1, .inr 4]) ⟨fun _ => rfl, fun (h : zv_is (.inr 1000)) => (Nat.lt_irrefl 1000 h).elim, fun _ => rfl, fun _ => rfl, fun _ => rfl, fun _ => rfl, fun _ => rfl, fun (h : zv_is (.inr 1000)) => (Nat.lt_irrefl 1000 h).elim, fun (h : zv_is (.inr 1000)) => (Nat.lt_irrefl 1000 h).elim, fun (h : zv_is (.inr 1000)) => (Nat.lt_irrefl 1000 h).elim, trivial⟩ ⟨fun _ => rfl, fun _ => rfl, trivial⟩ ?_
              exact ih _ _ _ _ _ _ q h hK
  have l0 : ∀ (n : Nat) (x2 : Int) (x3 : Int) (x4 : Int) (x5 : Int) (g1 : (Int → Int)) (q : (((Int → Int)) ⊕ (Int × (Int → Int)))), zf_Matcher_agree_l0 x2 x3 g0 g2 n x4 x5 g1 = some q → (Sum.elim (fun e : (Int → Int) => good 180 [.inr 1000, .inr 1000, .inr 1000, .inr 1000, .inr 1000, .inr 1000, .inr 1000, .inr 1000, .inr 1000, .inr 1000] [] [.inr 1, .inr 4] [g0, e, g2]) (fun w : Int × (Int → Int) => w = o) q) → good 11 [.inr 0, .inr 1000, .inl x2, .inl x3, .inl x4, .inl x5, .inr 1000, .inr 1000, .inr 1000, .inr 1000] [] [.inr 1, .inr 4] [g0, g1, g2] := by
    intro n
    induction n with
    | zero => intro x2 x3 x4 x5 g1 q h; exact absurd (show none = some q from h) (fun h => by cases h)
    | succ n ih =>
      intro x2 x3 x4 x5 g1 q h hK
      replace h : zf_Matcher_agree_l0_b x2 x3 g0 g2 (zf_Matcher_agree_l0 x2 x3 g0 g2 n) x4 x5 g1 = some q := h
      unfold zf_Matcher_agree_l0_b at h
      refine zv_ild hB zd118_11 rfl rfl ?_
      refine zv_con hB zd118_13 rfl ?_
      refine zv_cge hB zd118_16 rfl (fun hc1 => ?_) (fun hc1 => ?_)
      · rw [if_neg (Int.not_lt.mpr hc1)] at h
        have hq := Option.some.inj h
        subst hq
        refine zv_wk hB (L' := [.inr 1000, .inr 1000, .inr 1000, .inr 1000, .inr 1000, .inr 1000, .inr 1000, .inr 1000, .inr 1000, .inr 1000]) (F' := [.inr 1, .inr 4]) ⟨fun (h : zv_is (.inr 1000)) => (Nat.lt_irrefl 1000 h).elim, fun (h : zv_is (.inr 1000)) => (Nat.lt_irrefl 1000 h).elim, fun (h : zv_is (.inr 1000)) => (Nat.lt_irrefl 1000 h).elim, fun (h : zv_is (.inr 1000)) => (Nat.lt_irrefl 1000 h).elim, fun (h : zv_is (.inr 1000)) => (Nat.lt_irrefl 1000 h).elim, fun (h : zv_is (.inr 1000)) => (Nat.lt_irrefl 1000 h).elim, fun (h : zv_is (.inr 1000)) => (Nat.lt_irrefl 1000 h).elim, fun (h : zv_is (.inr 1000)) => (Nat.lt_irrefl 1000 h).elim, fun (h : zv_is (.inr 1000)) => (Nat.lt_irrefl 1000 h).elim, fun (h : zv_is (.inr 1000)) => (Nat.lt_irrefl 1000 h).elim, trivial⟩ ⟨fun _ => rfl, fun _ => rfl, trivial⟩ ?_
        exact hK
      · rw [if_pos hc1] at h
        refine zv_ild hB zd118_19 rfl rfl ?_
        refine zv_zeq hB zd118_21 rfl (fun hc2 => ?_) (fun hc2 => ?_)
        · rw [if_pos hc2] at h
          have hq := Option.some.inj h
          subst hq
          refine zv_wk hB (L' := [.inr 1000, .inr 1000, .inr 1000, .inr 1000, .inr 1000, .inr 1000, .inr 1000, .inr 1000, .inr 1000, .inr 1000]) (F' := [.inr 1, .inr 4]) ⟨fun (h : zv_is (.inr 1000)) => (Nat.lt_irrefl 1000 h).elim, fun (h : zv_is (.inr 1000)) => (Nat.lt_irrefl 1000 h).elim, fun (h : zv_is (.inr 1000)) => (Nat.lt_irrefl 1000 h).elim, fun (h : zv_is (.inr 1000)) => (Nat.lt_irrefl 1000 h).elim, fun (h : zv_is (.inr 1000)) => (Nat.lt_irrefl 1000 h).elim, fun (h : zv_is (.inr 1000)) => (Nat.lt_irrefl 1000 h).elim, fun (h : zv_is (.inr 1000)) => (Nat.lt_irrefl 1000 h).elim, fun (h : zv_is (.inr 1000)) => (Nat.lt_irrefl 1000 h).elim, fun (h : zv_is (.inr 1000)) => (Nat.lt_irrefl 1000 h).elim, fun (h : zv_is (.inr 1000)) => (Nat.lt_irrefl 1000 h).elim, trivial⟩ ⟨fun _ => rfl, fun _ => rfl, trivial⟩ ?_
          exact hK
        · rw [if_neg hc2] at h
          refine zv_con hB zd118_24 rfl ?_
          refine zv_ist hB zd118_25 rfl rfl rfl ?_
          refine zv_con hB zd118_27 rfl ?_
          refine zv_ist hB zd118_28 rfl rfl rfl ?_
          obtain ⟨q23, hq23, h⟩ := zi_bind h
          refine l1 _ _ _ _ _ _ _ q23 hq23 ?_
          rcases q23 with e24 | w25
          · replace h := zi_sl h
            show good 174 [.inr 0, .inr 1000, .inl x2, .inl x3, .inl e24.1, .inl x5, .inr 1000, .inr 1000, .inr 1000, .inr 1000] [] [.inr 1, .inr 4] [g0, e24.2, g2]
            refine zv_iincw hB zd118_174 rfl rfl ?_
            refine zv_goto hB zd118_177 rfl ?_
            exact ih _ _ _ _ _ q h hK
          · exact zi_rk (Option.some.inj h) hK
  unfold zf_Matcher_agree at h
  refine zv_ild hB zd118_0 rfl rfl ?_
  refine zv_con hB zd118_1 rfl ?_
  refine zv_mulw hB zd118_3 ?_
  refine zv_ist hB zd118_4 rfl rfl rfl ?_
  refine zv_con hB zd118_5 rfl ?_
  refine zv_ist hB zd118_6 rfl rfl rfl ?_
  refine zv_con hB zd118_8 rfl ?_
  refine zv_ist hB zd118_9 rfl rfl rfl ?_
  obtain ⟨q26, hq26, h⟩ := zi_bind h
  refine zv_wk hB (L' := [.inr 0, .inr 1000, .inl x2, .inl (zi_w (x1 * 8)), .inl 1, .inl 0, .inr 1000, .inr 1000, .inr 1000, .inr 1000]) (F' := [.inr 1, .inr 4]) ⟨fun _ => rfl, fun (h : zv_is (.inr 1000)) => (Nat.lt_irrefl 1000 h).elim, fun _ => rfl, fun _ => rfl, fun _ => rfl, fun _ => rfl, fun (h : zv_is (.inr 1000)) => (Nat.lt_irrefl 1000 h).elim, fun (h : zv_is (.inr 1000)) => (Nat.lt_irrefl 1000 h).elim, fun (h : zv_is (.inr 1000)) => (Nat.lt_irrefl 1000 h).elim, fun (h : zv_is (.inr 1000)) => (Nat.lt_irrefl 1000 h).elim, trivial⟩ ⟨fun _ => rfl, fun _ => rfl, trivial⟩ ?_
  refine l0 _ _ _ _ _ _ q26 hq26 ?_
  rcases q26 with e27 | w28
  · replace h := zi_sl h
    show good 180 [.inr 1000, .inr 1000, .inr 1000, .inr 1000, .inr 1000, .inr 1000, .inr 1000, .inr 1000, .inr 1000, .inr 1000] [] [.inr 1, .inr 4] [g0, e27, g2]
    refine zv_con hB zd118_180 rfl ?_
    have hw := Option.some.inj h
    subst hw
    exact hret _ _ _ _ _ zd118_181 (by constructor <;> decide) ⟨rfl, rfl, rfl⟩
  · exact Option.some.inj h
end
section
/-! Methods as functions, and that they do what these do. -/
/-! Matcher_search (III)I -/
-- names: 0 Matcher('arg', 0), 1 (0, 72)(0, 8, 0), 2 Tale(0, 8, 3), 3 (0, 8)(2, 6, 2), 4 (0, 24)(0, 8, 1), 5 (0, 8)(0, 8, 2), 6 (0, 24)(0, 8, 4)
-- fields: f0 = 0.tale_, f1 = 0.joined_, f2 = 0.deadEnds_; arrays: g0 = 1, g1 = 3, g2 = 4, g3 = 5, g4 = 6; out: [('ret', None), ('f', 2), ('g', 0), ('g', 3)]
abbrev zy_Matcher_search : zNL := (7, [(0, 8), (2, 6)], [(0, 8, 3, 0), (0, 8, 4, 1), (0, 8, 6, 2)], [(0, 8, 0, 1), (2, 6, 2, 3), (0, 8, 1, 4), (0, 8, 2, 5)], [(1, 0, 72, 0), (3, 0, 8, 1), (4, 0, 24, 2), (5, 0, 8, 3), (6, 0, 24, 4)])
theorem zyw_Matcher_search : zv_wf zy_Matcher_search = true := by decide +kernel
theorem zye_Matcher_search : zv_ek2 zy_Matcher_search = true := by decide +kernel
def zm_Matcher_search_l0_b (rc : Nat → Int → Int → Int → Int → (Int → Int) → (Int → Int) → (Int → Int) → (Int → Int) → (Int → Int) → Option (Int × Int × (Int → Int) × (Int → Int))) (x1 : Int) (x3 : Int) (x4 : Int) (x6 : Int) (g1 : (Int → Int)) (g2 : (Int → Int)) (g4 : (Int → Int)) (rec : Int → Int → Int → Int → (Int → Int) → (Int → Int) → Option (Int × Int × (Int → Int) × (Int → Int))) (x5 : Int) (x7 : Int) (x8 : Int) (f2 : Int) (g0 : (Int → Int)) (g3 : (Int → Int)) : Option (Int × Int × (Int → Int) × (Int → Int)) := if x8 < 24 then (if x7 < x3 then (if (zi_and (zi_shr x5 x8) 1) = 0 then (rec x5 x7 (zi_w (x8 + 1)) f2 g0 g3) else (cond (zi_ix x8 24) ((zf_Integer_bitCount (zi_and x5 (g2 x8))).bind fun r10 => (cond (zi_ix x4 8) ((zf_Matcher_narrow x1 x6 x4 x8 g0 g1 g4).bind fun r12 => (if r12.1 = 0 then (rec (zi_and x5 (zi_xor (g2 x8) (-1))) x7 (zi_w (x8 + 1)) (zi_w (f2 + 1)) r12.2 (zv_up g3 x4 x8)) else (if f2 < 40 then ((rc 0 (zi_w (x1 + 1)) x6 (zi_w (x3 - x7)) f2 r12.2 g1 g2 (zv_up g3 x4 x8) g4).bind fun r15 => (rec (zi_and x5 (zi_xor (g2 x8) (-1))) (zi_w (x7 + (zi_w (r10 * r15.1)))) (zi_w (x8 + 1)) r15.2.1 r15.2.2.1 r15.2.2.2)) else ((zf_Matcher_agree (zi_w (x1 + 1)) x6 g1 r12.2 g4).bind fun r16 => (if r16.1 = 0 then (rec (zi_and x5 (zi_xor (g2 x8) (-1))) x7 (zi_w (x8 + 1)) (zi_w (f2 + 1)) r16.2 (zv_up g3 x4 x8)) else ((rc 0 (zi_w (x1 + 1)) x6 (zi_w (x3 - x7)) f2 r16.2 g1 g2 (zv_up g3 x4 x8) g4).bind fun r18 => (rec (zi_and x5 (zi_xor (g2 x8) (-1))) (zi_w (x7 + (zi_w (r10 * r18.1)))) (zi_w (x8 + 1)) r18.2.1 r18.2.2.1 r18.2.2.2))))))) none)) none)) else (some (x7, f2, g0, g3))) else (some (x7, f2, g0, g3))
def zm_Matcher_search_l0 (rc : Nat → Int → Int → Int → Int → (Int → Int) → (Int → Int) → (Int → Int) → (Int → Int) → (Int → Int) → Option (Int × Int × (Int → Int) × (Int → Int))) (x1 : Int) (x3 : Int) (x4 : Int) (x6 : Int) (g1 : (Int → Int)) (g2 : (Int → Int)) (g4 : (Int → Int)) : Nat → Int → Int → Int → Int → (Int → Int) → (Int → Int) → Option (Int × Int × (Int → Int) × (Int → Int))
  | 0, _, _, _, _, _, _ => none
  | n + 1, x5, x7, x8, f2, g0, g3 => zm_Matcher_search_l0_b rc x1 x3 x4 x6 g1 g2 g4 (zm_Matcher_search_l0 rc x1 x3 x4 x6 g1 g2 g4 n) x5 x7 x8 f2 g0 g3
def zm_Matcher_search (rc : Nat → Int → Int → Int → Int → (Int → Int) → (Int → Int) → (Int → Int) → (Int → Int) → (Int → Int) → Option (Int × Int × (Int → Int) × (Int → Int))) (x1 : Int) (x2 : Int) (x3 : Int) (f2 : Int) (g0 : (Int → Int)) (g1 : (Int → Int)) (g2 : (Int → Int)) (g3 : (Int → Int)) (g4 : (Int → Int)) : Option (Int × Int × (Int → Int) × (Int → Int)) := if x2 = 0 then (some (1, f2, g0, g3)) else (if x1 < 8 then ((zf_Matcher_tightest x1 x2 g0 g1).bind fun r4 => (cond (zi_ix (zi_w ((zi_w (x1 * 8)) + r4)) 72) ((zm_Matcher_search_l0 rc x1 x3 r4 (zi_and x2 (zi_xor (zi_shl 1 r4) (-1))) g1 g2 g4 zi_fu (g0 (zi_w ((zi_w (x1 * 8)) + r4))) 0 0 f2 g0 g3).bind fun q19 => ((zf_Math_min q19.1 x3).bind fun r20 => (some (r20, q19.2.1, q19.2.2.1, q19.2.2.2)))) none)) else (some (0, f2, g0, g3)))
theorem zd115_0 : decode zxm115.2.1 0 = .ok (.iload_n 2, 1) := by decide +kernel
theorem zd115_1 : decode zxm115.2.1 1 = .ok (.ifCond .eq 9, 3) := by decide +kernel
theorem zd115_4 : decode zxm115.2.1 4 = .ok (.iload_n 1, 1) := by decide +kernel
theorem zd115_5 : decode zxm115.2.1 5 = .ok (.bipush 8, 2) := by decide +kernel
theorem zd115_7 : decode zxm115.2.1 7 = .ok (.if_icmp .lt 13, 3) := by decide +kernel
theorem zd115_10 : decode zxm115.2.1 10 = .ok (.iload_n 2, 1) := by decide +kernel
theorem zd115_11 : decode zxm115.2.1 11 = .ok (.ifCond .ne 7, 3) := by decide +kernel
theorem zd115_14 : decode zxm115.2.1 14 = .ok (.iconst 1, 1) := by decide +kernel
theorem zd115_15 : decode zxm115.2.1 15 = .ok (.goto 4, 3) := by decide +kernel
theorem zd115_18 : decode zxm115.2.1 18 = .ok (.iconst 0, 1) := by decide +kernel
theorem zd115_19 : decode zxm115.2.1 19 = .ok (.ireturn, 1) := by decide +kernel
theorem zd115_20 : decode zxm115.2.1 20 = .ok (.aload_n 0, 1) := by decide +kernel
theorem zd115_21 : decode zxm115.2.1 21 = .ok (.iload_n 1, 1) := by decide +kernel
theorem zd115_22 : decode zxm115.2.1 22 = .ok (.iload_n 2, 1) := by decide +kernel
theorem zd115_23 : decode zxm115.2.1 23 = .ok (.invokevirtual 65, 3) := by decide +kernel
theorem zd115_26 : decode zxm115.2.1 26 = .ok (.istore 4, 2) := by decide +kernel
theorem zd115_28 : decode zxm115.2.1 28 = .ok (.aload_n 0, 1) := by decide +kernel
theorem zd115_29 : decode zxm115.2.1 29 = .ok (.getfield 11, 3) := by decide +kernel
theorem zd115_32 : decode zxm115.2.1 32 = .ok (.iload_n 1, 1) := by decide +kernel
theorem zd115_33 : decode zxm115.2.1 33 = .ok (.bipush 8, 2) := by decide +kernel
theorem zd115_35 : decode zxm115.2.1 35 = .ok (.imul, 1) := by decide +kernel
theorem zd115_36 : decode zxm115.2.1 36 = .ok (.iload 4, 2) := by decide +kernel
theorem zd115_38 : decode zxm115.2.1 38 = .ok (.iadd, 1) := by decide +kernel
theorem zd115_39 : decode zxm115.2.1 39 = .ok (.iaload, 1) := by decide +kernel
theorem zd115_40 : decode zxm115.2.1 40 = .ok (.istore 5, 2) := by decide +kernel
theorem zd115_42 : decode zxm115.2.1 42 = .ok (.iload_n 2, 1) := by decide +kernel
theorem zd115_43 : decode zxm115.2.1 43 = .ok (.iconst 1, 1) := by decide +kernel
theorem zd115_44 : decode zxm115.2.1 44 = .ok (.iload 4, 2) := by decide +kernel
theorem zd115_46 : decode zxm115.2.1 46 = .ok (.ishl, 1) := by decide +kernel
theorem zd115_47 : decode zxm115.2.1 47 = .ok (.iconst (-1), 1) := by decide +kernel
theorem zd115_48 : decode zxm115.2.1 48 = .ok (.ixor, 1) := by decide +kernel
theorem zd115_49 : decode zxm115.2.1 49 = .ok (.iand, 1) := by decide +kernel
theorem zd115_50 : decode zxm115.2.1 50 = .ok (.istore 6, 2) := by decide +kernel
theorem zd115_52 : decode zxm115.2.1 52 = .ok (.iconst 0, 1) := by decide +kernel
theorem zd115_53 : decode zxm115.2.1 53 = .ok (.istore 7, 2) := by decide +kernel
theorem zd115_55 : decode zxm115.2.1 55 = .ok (.iconst 0, 1) := by decide +kernel
theorem zd115_56 : decode zxm115.2.1 56 = .ok (.istore 8, 2) := by decide +kernel
theorem zd115_58 : decode zxm115.2.1 58 = .ok (.iload 8, 2) := by decide +kernel
theorem zd115_60 : decode zxm115.2.1 60 = .ok (.bipush 24, 2) := by decide +kernel
theorem zd115_62 : decode zxm115.2.1 62 = .ok (.if_icmp .ge 132, 3) := by decide +kernel
theorem zd115_65 : decode zxm115.2.1 65 = .ok (.iload 7, 2) := by decide +kernel
theorem zd115_67 : decode zxm115.2.1 67 = .ok (.iload_n 3, 1) := by decide +kernel
theorem zd115_68 : decode zxm115.2.1 68 = .ok (.if_icmp .ge 126, 3) := by decide +kernel
theorem zd115_71 : decode zxm115.2.1 71 = .ok (.iload 5, 2) := by decide +kernel
theorem zd115_73 : decode zxm115.2.1 73 = .ok (.iload 8, 2) := by decide +kernel
theorem zd115_75 : decode zxm115.2.1 75 = .ok (.ishr, 1) := by decide +kernel
theorem zd115_76 : decode zxm115.2.1 76 = .ok (.iconst 1, 1) := by decide +kernel
theorem zd115_77 : decode zxm115.2.1 77 = .ok (.iand, 1) := by decide +kernel
theorem zd115_78 : decode zxm115.2.1 78 = .ok (.ifCond .eq 110, 3) := by decide +kernel
theorem zd115_81 : decode zxm115.2.1 81 = .ok (.iload 5, 2) := by decide +kernel
theorem zd115_83 : decode zxm115.2.1 83 = .ok (.aload_n 0, 1) := by decide +kernel
theorem zd115_84 : decode zxm115.2.1 84 = .ok (.getfield 17, 3) := by decide +kernel
theorem zd115_87 : decode zxm115.2.1 87 = .ok (.iload 8, 2) := by decide +kernel
theorem zd115_89 : decode zxm115.2.1 89 = .ok (.iaload, 1) := by decide +kernel
theorem zd115_90 : decode zxm115.2.1 90 = .ok (.iand, 1) := by decide +kernel
theorem zd115_91 : decode zxm115.2.1 91 = .ok (.invokestatic 55, 3) := by decide +kernel
theorem zd115_94 : decode zxm115.2.1 94 = .ok (.istore 9, 2) := by decide +kernel
theorem zd115_96 : decode zxm115.2.1 96 = .ok (.iload 5, 2) := by decide +kernel
theorem zd115_98 : decode zxm115.2.1 98 = .ok (.aload_n 0, 1) := by decide +kernel
theorem zd115_99 : decode zxm115.2.1 99 = .ok (.getfield 17, 3) := by decide +kernel
theorem zd115_102 : decode zxm115.2.1 102 = .ok (.iload 8, 2) := by decide +kernel
theorem zd115_104 : decode zxm115.2.1 104 = .ok (.iaload, 1) := by decide +kernel
theorem zd115_105 : decode zxm115.2.1 105 = .ok (.iconst (-1), 1) := by decide +kernel
theorem zd115_106 : decode zxm115.2.1 106 = .ok (.ixor, 1) := by decide +kernel
theorem zd115_107 : decode zxm115.2.1 107 = .ok (.iand, 1) := by decide +kernel
theorem zd115_108 : decode zxm115.2.1 108 = .ok (.istore 5, 2) := by decide +kernel
theorem zd115_110 : decode zxm115.2.1 110 = .ok (.aload_n 0, 1) := by decide +kernel
theorem zd115_111 : decode zxm115.2.1 111 = .ok (.getfield 20, 3) := by decide +kernel
theorem zd115_114 : decode zxm115.2.1 114 = .ok (.iload 4, 2) := by decide +kernel
theorem zd115_116 : decode zxm115.2.1 116 = .ok (.iload 8, 2) := by decide +kernel
theorem zd115_118 : decode zxm115.2.1 118 = .ok (.iastore, 1) := by decide +kernel
theorem zd115_119 : decode zxm115.2.1 119 = .ok (.aload_n 0, 1) := by decide +kernel
theorem zd115_120 : decode zxm115.2.1 120 = .ok (.iload_n 1, 1) := by decide +kernel
theorem zd115_121 : decode zxm115.2.1 121 = .ok (.iload 6, 2) := by decide +kernel
theorem zd115_123 : decode zxm115.2.1 123 = .ok (.iload 4, 2) := by decide +kernel
theorem zd115_125 : decode zxm115.2.1 125 = .ok (.iload 8, 2) := by decide +kernel
theorem zd115_127 : decode zxm115.2.1 127 = .ok (.invokevirtual 68, 3) := by decide +kernel
theorem zd115_130 : decode zxm115.2.1 130 = .ok (.ifCond .eq 48, 3) := by decide +kernel
theorem zd115_133 : decode zxm115.2.1 133 = .ok (.aload_n 0, 1) := by decide +kernel
theorem zd115_134 : decode zxm115.2.1 134 = .ok (.getfield 27, 3) := by decide +kernel
theorem zd115_137 : decode zxm115.2.1 137 = .ok (.bipush 40, 2) := by decide +kernel
theorem zd115_139 : decode zxm115.2.1 139 = .ok (.if_icmp .lt 15, 3) := by decide +kernel
theorem zd115_142 : decode zxm115.2.1 142 = .ok (.aload_n 0, 1) := by decide +kernel
theorem zd115_143 : decode zxm115.2.1 143 = .ok (.iload_n 1, 1) := by decide +kernel
theorem zd115_144 : decode zxm115.2.1 144 = .ok (.iconst 1, 1) := by decide +kernel
theorem zd115_145 : decode zxm115.2.1 145 = .ok (.iadd, 1) := by decide +kernel
theorem zd115_146 : decode zxm115.2.1 146 = .ok (.iload 6, 2) := by decide +kernel
theorem zd115_148 : decode zxm115.2.1 148 = .ok (.invokevirtual 72, 3) := by decide +kernel
theorem zd115_151 : decode zxm115.2.1 151 = .ok (.ifCond .eq 27, 3) := by decide +kernel
theorem zd115_154 : decode zxm115.2.1 154 = .ok (.iload 7, 2) := by decide +kernel
theorem zd115_156 : decode zxm115.2.1 156 = .ok (.iload 9, 2) := by decide +kernel
theorem zd115_158 : decode zxm115.2.1 158 = .ok (.aload_n 0, 1) := by decide +kernel
theorem zd115_159 : decode zxm115.2.1 159 = .ok (.iload_n 1, 1) := by decide +kernel
theorem zd115_160 : decode zxm115.2.1 160 = .ok (.iconst 1, 1) := by decide +kernel
theorem zd115_161 : decode zxm115.2.1 161 = .ok (.iadd, 1) := by decide +kernel
theorem zd115_162 : decode zxm115.2.1 162 = .ok (.iload 6, 2) := by decide +kernel
theorem zd115_164 : decode zxm115.2.1 164 = .ok (.iload_n 3, 1) := by decide +kernel
theorem zd115_165 : decode zxm115.2.1 165 = .ok (.iload 7, 2) := by decide +kernel
theorem zd115_167 : decode zxm115.2.1 167 = .ok (.isub, 1) := by decide +kernel
theorem zd115_168 : decode zxm115.2.1 168 = .ok (.invokevirtual 44, 3) := by decide +kernel
theorem zd115_171 : decode zxm115.2.1 171 = .ok (.imul, 1) := by decide +kernel
theorem zd115_172 : decode zxm115.2.1 172 = .ok (.iadd, 1) := by decide +kernel
theorem zd115_173 : decode zxm115.2.1 173 = .ok (.istore 7, 2) := by decide +kernel
theorem zd115_175 : decode zxm115.2.1 175 = .ok (.goto 13, 3) := by decide +kernel
theorem zd115_178 : decode zxm115.2.1 178 = .ok (.aload_n 0, 1) := by decide +kernel
theorem zd115_179 : decode zxm115.2.1 179 = .ok (.dup, 1) := by decide +kernel
theorem zd115_180 : decode zxm115.2.1 180 = .ok (.getfield 27, 3) := by decide +kernel
theorem zd115_183 : decode zxm115.2.1 183 = .ok (.iconst 1, 1) := by decide +kernel
theorem zd115_184 : decode zxm115.2.1 184 = .ok (.iadd, 1) := by decide +kernel
theorem zd115_185 : decode zxm115.2.1 185 = .ok (.putfield 27, 3) := by decide +kernel
theorem zd115_188 : decode zxm115.2.1 188 = .ok (.iinc 8 1, 3) := by decide +kernel
theorem zd115_191 : decode zxm115.2.1 191 = .ok (.goto (-133), 3) := by decide +kernel
theorem zd115_194 : decode zxm115.2.1 194 = .ok (.iload 7, 2) := by decide +kernel
theorem zd115_196 : decode zxm115.2.1 196 = .ok (.iload_n 3, 1) := by decide +kernel
theorem zd115_197 : decode zxm115.2.1 197 = .ok (.invokestatic 76, 3) := by decide +kernel
theorem zd115_200 : decode zxm115.2.1 200 = .ok (.ireturn, 1) := by decide +kernel
theorem zts_Matcher_search {dp : Nat} {rc : Nat → Int → Int → Int → Int → (Int → Int) → (Int → Int) → (Int → Int) → (Int → Int) → (Int → Int) → Option (Int × Int × (Int → Int) × (Int → Int))} (ih0 : ∀ (x1 : Int) (x2 : Int) (x3 : Int) (f2 : Int) (g0 : (Int → Int)) (g1 : (Int → Int)) (g2 : (Int → Int)) (g3 : (Int → Int)) (g4 : (Int → Int)) (o : Int × Int × (Int → Int) × (Int → Int)), rc 0 x1 x2 x3 f2 g0 g1 g2 g3 g4 = some o → zv_Fn z_TB z_cl z_KX zy_Matcher_search zxm115 (2 + dp, 60 * (2 + dp)) [.inr 0, .inl x1, .inl x2, .inl x3] [.inr 2, .inr 6, .inl f2] [g0, g1, g2, g3, g4] (some o.1) [.inr 2, .inr 6, .inl o.2.1] [o.2.2.1, g1, g2, o.2.2.2, g4]) {x1 : Int} {x2 : Int} {x3 : Int} {f2 : Int} {g0 : (Int → Int)} {g1 : (Int → Int)} {g2 : (Int → Int)} {g3 : (Int → Int)} {g4 : (Int → Int)} {o : Int × Int × (Int → Int) × (Int → Int)} (h : zm_Matcher_search rc x1 x2 x3 f2 g0 g1 g2 g3 g4 = some o) : zv_Fn z_TB z_cl z_KX zy_Matcher_search zxm115 (2 + (dp + 1), 60 * (2 + (dp + 1))) [.inr 0, .inl x1, .inl x2, .inl x3] [.inr 2, .inr 6, .inl f2] [g0, g1, g2, g3, g4] (some o.1) [.inr 2, .inr 6, .inl o.2.1] [o.2.2.1, g1, g2, o.2.2.2, g4] := zv_meth (K := (z_KF4, z_KC4, z_KL4, z_KT4, [], [], [], none)) (FT := z_FT) (MT := z_MT) (n := 4) zxp115 (z_ks4 _ (fun _ h => List.mem_cons_of_mem _ h) _ _ _ _ (fun j r h _ => by cases h)) (fun _ _ => zs_KX_p) zyw_Matcher_search (fun va F G h => by obtain ⟨rfl, _⟩ := h; rfl) (fun va F G h => by obtain ⟨rfl, _⟩ := h; rfl) rfl fun good va F G hB hret hvret hP => by
  obtain ⟨rfl, rfl, rfl⟩ := hP
  have l0 : ∀ (n : Nat) (x1 : Int) (x3 : Int) (x4 : Int) (x5 : Int) (x6 : Int) (x7 : Int) (x8 : Int) (f2 : Int) (g0 : (Int → Int)) (g3 : (Int → Int)) (q : Int × Int × (Int → Int) × (Int → Int)), zm_Matcher_search_l0 rc x1 x3 x4 x6 g1 g2 g4 n x5 x7 x8 f2 g0 g3 = some q → (good 194 [.inr 1000, .inr 1000, .inr 1000, .inl x3, .inr 1000, .inr 1000, .inr 1000, .inl q.1, .inr 1000, .inr 1000] [] [.inr 2, .inr 6, .inl q.2.1] [q.2.2.1, g1, g2, q.2.2.2, g4]) → good 58 [.inr 0, .inl x1, .inr 1000, .inl x3, .inl x4, .inl x5, .inl x6, .inl x7, .inl x8, .inr 1000] [] [.inr 2, .inr 6, .inl f2] [g0, g1, g2, g3, g4] := by
    intro n
    induction n with
    | zero => intro x1 x3 x4 x5 x6 x7 x8 f2 g0 g3 q h; exact absurd (show none = some q from h) (fun h => by cases h)
    | succ n ih =>
      intro x1 x3 x4 x5 x6 x7 x8 f2 g0 g3 q h hK
      replace h : zm_Matcher_search_l0_b rc x1 x3 x4 x6 g1 g2 g4 (zm_Matcher_search_l0 rc x1 x3 x4 x6 g1 g2 g4 n) x5 x7 x8 f2 g0 g3 = some q := h
      unfold zm_Matcher_search_l0_b at h
      refine zv_ild hB zd115_58 rfl rfl ?_
      refine zv_con hB zd115_60 rfl ?_
      refine zv_cge hB zd115_62 rfl (fun hc6 => ?_) (fun hc6 => ?_)
      · rw [if_neg (Int.not_lt.mpr hc6)] at h
        have hq := Option.some.inj h
        subst hq
        refine zv_wk hB (L' := [.inr 1000, .inr 1000, .inr 1000, .inl x3, .inr 1000, .inr 1000, .inr 1000, .inl x7, .inr 1000, .inr 1000]) (F' := [.inr 2, .inr 6, .inl f2]) ⟨fun (h : zv_is (.inr 1000)) => (Nat.lt_irrefl 1000 h).elim, fun (h : zv_is (.inr 1000)) => (Nat.lt_irrefl 1000 h).elim, fun (h : zv_is (.inr 1000)) => (Nat.lt_irrefl 1000 h).elim, fun _ => rfl, fun (h : zv_is (.inr 1000)) => (Nat.lt_irrefl 1000 h).elim, fun (h : zv_is (.inr 1000)) => (Nat.lt_irrefl 1000 h).elim, fun (h : zv_is (.inr 1000)) => (Nat.lt_irrefl 1000 h).elim, fun _ => rfl, fun (h : zv_is (.inr 1000)) => (Nat.lt_irrefl 1000 h).elim, fun (h : zv_is (.inr 1000)) => (Nat.lt_irrefl 1000 h).elim, trivial⟩ ⟨fun _ => rfl, fun _ => rfl, fun _ => rfl, trivial⟩ ?_
        exact hK
      · rw [if_pos hc6] at h
        refine zv_ild hB zd115_65 rfl rfl ?_
        refine zv_ild hB zd115_67 rfl rfl ?_
        refine zv_cge hB zd115_68 rfl (fun hc7 => ?_) (fun hc7 => ?_)
        · rw [if_neg (Int.not_lt.mpr hc7)] at h
          have hq := Option.some.inj h
          subst hq
          refine zv_wk hB (L' := [.inr 1000, .inr 1000, .inr 1000, .inl x3, .inr 1000, .inr 1000, .inr 1000, .inl x7, .inr 1000, .inr 1000]) (F' := [.inr 2, .inr 6, .inl f2]) ⟨fun (h : zv_is (.inr 1000)) => (Nat.lt_irrefl 1000 h).elim, fun (h : zv_is (.inr 1000)) => (Nat.lt_irrefl 1000 h).elim, fun (h : zv_is (.inr 1000)) => (Nat.lt_irrefl 1000 h).elim, fun _ => rfl, fun (h : zv_is (.inr 1000)) => (Nat.lt_irrefl 1000 h).elim, fun (h : zv_is (.inr 1000)) => (Nat.lt_irrefl 1000 h).elim, fun (h : zv_is (.inr 1000)) => (Nat.lt_irrefl 1000 h).elim, fun _ => rfl, fun (h : zv_is (.inr 1000)) => (Nat.lt_irrefl 1000 h).elim, fun (h : zv_is (.inr 1000)) => (Nat.lt_irrefl 1000 h).elim, trivial⟩ ⟨fun _ => rfl, fun _ => rfl, fun _ => rfl, trivial⟩ ?_
          exact hK
        · rw [if_pos hc7] at h
          refine zv_ild hB zd115_71 rfl rfl ?_
          refine zv_ild hB zd115_73 rfl rfl ?_
          refine zv_shrw hB zd115_75 ?_
          refine zv_con hB zd115_76 rfl ?_
          refine zv_andw hB zd115_77 ?_
          refine zv_zeq hB zd115_78 rfl (fun hc8 => ?_) (fun hc8 => ?_)
          · rw [if_pos hc8] at h
            refine zv_iincw hB zd115_188 rfl rfl ?_
            refine zv_goto hB zd115_191 rfl ?_
            exact ih _ _ _ _ _ _ _ _ _ _ q h hK
          · rw [if_neg hc8] at h
            refine zv_ild hB zd115_81 rfl rfl ?_
            refine zv_ald hB zd115_83 rfl rfl rfl ?_
            refine zv_getr hB zd115_84 rfl ?_
            refine zv_ild hB zd115_87 rfl rfl ?_
            obtain ⟨c9, h⟩ := zi_if h
            refine zv_iald hB zd115_89 rfl rfl (zi_ix_ok c9).1 (zi_ix_ok c9).2 (fun _ _ => ?_)
            refine zv_andw hB zd115_90 ?_
            obtain ⟨r10, hr10, h⟩ := zi_bind h
            refine zv_cs hB (zv_emq (va2 := [.inl (zi_and x5 (g2 x8))]) (F := [.inr 2, .inr 6, .inl f2]) (F' := [.inr 2, .inr 6, .inl f2]) (G := [g0, g1, g2, g3, g4]) (G' := [g0, g1, g2, g3, g4]) (ρ := []) (φ := []) (ψ := []) [none, none, none] [none, none, none, none, none] zyw_Integer_bitCount zyw_Matcher_search zye_Matcher_search (by decide +kernel) (zt_Integer_bitCount hr10) trivial trivial rfl rfl rfl rfl rfl rfl rfl) zd115_91 zxt102 rfl (by show 0 + 1 ≤ 2 + (dp + 1); omega) (by show 8 + (1 + 11) + 60 * (0) ≤ 60 * (2 + (dp + 1)); omega) rfl ?_
            refine zv_ist hB zd115_94 rfl rfl rfl ?_
            refine zv_ild hB zd115_96 rfl rfl ?_
            refine zv_ald hB zd115_98 rfl rfl rfl ?_
            refine zv_getr hB zd115_99 rfl ?_
            refine zv_ild hB zd115_102 rfl rfl ?_
            refine zv_iald hB zd115_104 rfl rfl (zi_ix_ok c9).1 (zi_ix_ok c9).2 (fun _ _ => ?_)
            refine zv_con hB zd115_105 rfl ?_
            refine zv_xorw hB zd115_106 ?_
            refine zv_andw hB zd115_107 ?_
            refine zv_ist hB zd115_108 rfl rfl rfl ?_
            refine zv_ald hB zd115_110 rfl rfl rfl ?_
            refine zv_getr hB zd115_111 rfl ?_
            refine zv_ild hB zd115_114 rfl rfl ?_
            refine zv_ild hB zd115_116 rfl rfl ?_
            obtain ⟨c11, h⟩ := zi_if h
            refine zv_iast hB zd115_118 rfl rfl (zi_ix_ok c11).1 (zi_ix_ok c11).2 ?_
            refine zv_ald hB zd115_119 rfl rfl rfl ?_
            refine zv_ild hB zd115_120 rfl rfl ?_
            refine zv_ild hB zd115_121 rfl rfl ?_
            refine zv_ild hB zd115_123 rfl rfl ?_
            refine zv_ild hB zd115_125 rfl rfl ?_
            obtain ⟨r12, hr12, h⟩ := zi_bind h
            refine zv_cv hB (zv_emq (va2 := [.inr 0, .inl x1, .inl x6, .inl x4, .inl x8]) (F := [.inr 2, .inr 6, .inl f2]) (F' := [.inr 2, .inr 6, .inl f2]) (G := [g0, g1, g2, (zv_up g3 x4 x8), g4]) (G' := [r12.2, g1, g2, (zv_up g3 x4 x8), g4]) (ρ := [0, 1, 2, 3, 6]) (φ := [0, 1]) (ψ := [0, 1, 4]) [some 0, some 1, none] [some 0, some 1, none, none, some 2] zyw_Matcher_narrow zyw_Matcher_search zye_Matcher_search (by decide +kernel) (zt_Matcher_narrow hr12) ⟨⟨_, rfl, fun _ => rfl⟩, ⟨_, rfl, fun _ => rfl⟩, trivial⟩ ⟨rfl, rfl, rfl, trivial⟩ rfl rfl rfl rfl rfl rfl rfl) zd115_127 zxt117 rfl (by show 0 + 1 ≤ 2 + (dp + 1); omega) (by show 8 + (9 + 11) + 60 * (0) ≤ 60 * (2 + (dp + 1)); omega) rfl ?_
            refine zv_zeq hB zd115_130 rfl (fun hc13 => ?_) (fun hc13 => ?_)
            · rw [if_pos hc13] at h
              refine zv_ald hB zd115_178 rfl rfl rfl ?_
              refine zv_dup hB zd115_179 rfl ?_
              refine zv_getf hB zd115_180 rfl rfl (fun _ _ => ?_)
              refine zv_con hB zd115_183 rfl ?_
              refine zv_addw hB zd115_184 ?_
              refine zv_putf hB zd115_185 rfl rfl (fun h => by cases h) rfl ?_
              refine zv_iincw hB zd115_188 rfl rfl ?_
              refine zv_goto hB zd115_191 rfl ?_
              refine zv_wk hB (L' := [.inr 0, .inl x1, .inr 1000, .inl x3, .inl x4, .inl (zi_and x5 (zi_xor (g2 x8) (-1))), .inl x6, .inl x7, .inl (zi_w (x8 + 1)), .inr 1000]) (F' := [.inr 2, .inr 6, .inl (zi_w (f2 + 1))]) ⟨fun _ => rfl, fun _ => rfl, fun (h : zv_is (.inr 1000)) => (Nat.lt_irrefl 1000 h).elim, fun _ => rfl, fun _ => rfl, fun _ => rfl, fun _ => rfl, fun _ => rfl, fun _ => rfl, fun (h : zv_is (.inr 1000)) => (Nat.lt_irrefl 1000 h).elim, trivial⟩ ⟨fun _ => rfl, fun _ => rfl, fun _ => rfl, trivial⟩ ?_
              exact ih _ _ _ _ _ _ _ _ _ _ q h hK
            · rw [if_neg hc13] at h
              refine zv_ald hB zd115_133 rfl rfl rfl ?_
              refine zv_getf hB zd115_134 rfl rfl (fun _ _ => ?_)
              refine zv_con hB zd115_137 rfl ?_
              refine zv_clt hB zd115_139 rfl (fun hc14 => ?_) (fun hc14 => ?_)
              · rw [if_pos hc14] at h
                refine zv_ild hB zd115_154 rfl rfl ?_
                refine zv_ild hB zd115_156 rfl rfl ?_
                refine zv_ald hB zd115_158 rfl rfl rfl ?_
                refine zv_ild hB zd115_159 rfl rfl ?_
                refine zv_con hB zd115_160 rfl ?_
                refine zv_addw hB zd115_161 ?_
                refine zv_ild hB zd115_162 rfl rfl ?_
                refine zv_ild hB zd115_164 rfl rfl ?_
                refine zv_ild hB zd115_165 rfl rfl ?_
                refine zv_subw hB zd115_167 ?_
                obtain ⟨r15, hr15, h⟩ := zi_bind h
                refine zv_cv hB (show zv_Fn _ _ _ zy_Matcher_search _ _ [.inr 0, .inl (zi_w (x1 + 1)), .inl x6, .inl (zi_w (x3 - x7))] [.inr 2, .inr 6, .inl f2] [r12.2, g1, g2, (zv_up g3 x4 x8), g4] (some r15.1) [.inr 2, .inr 6, .inl r15.2.1] [r15.2.2.1, g1, g2, r15.2.2.2, g4] from ih0 _ _ _ _ _ _ _ _ _ r15 hr15) zd115_168 zxt115 rfl (by show 2 + dp + 1 ≤ 2 + (dp + 1); omega) (by show 8 + (10 + 11) + 60 * (2 + dp) ≤ 60 * (2 + (dp + 1)); omega) rfl ?_
                refine zv_mulw hB zd115_171 ?_
                refine zv_addw hB zd115_172 ?_
                refine zv_ist hB zd115_173 rfl rfl rfl ?_
                refine zv_goto hB zd115_175 rfl ?_
                refine zv_iincw hB zd115_188 rfl rfl ?_
                refine zv_goto hB zd115_191 rfl ?_
                refine zv_wk hB (L' := [.inr 0, .inl x1, .inr 1000, .inl x3, .inl x4, .inl (zi_and x5 (zi_xor (g2 x8) (-1))), .inl x6, .inl (zi_w (x7 + (zi_w (r10 * r15.1)))), .inl (zi_w (x8 + 1)), .inr 1000]) (F' := [.inr 2, .inr 6, .inl r15.2.1]) ⟨fun _ => rfl, fun _ => rfl, fun (h : zv_is (.inr 1000)) => (Nat.lt_irrefl 1000 h).elim, fun _ => rfl, fun _ => rfl, fun _ => rfl, fun _ => rfl, fun _ => rfl, fun _ => rfl, fun (h : zv_is (.inr 1000)) => (Nat.lt_irrefl 1000 h).elim, trivial⟩ ⟨fun _ => rfl, fun _ => rfl, fun _ => rfl, trivial⟩ ?_
                exact ih _ _ _ _ _ _ _ _ _ _ q h hK
              · rw [if_neg (Int.not_lt.mpr hc14)] at h
                refine zv_ald hB zd115_142 rfl rfl rfl ?_
                refine zv_ild hB zd115_143 rfl rfl ?_
                refine zv_con hB zd115_144 rfl ?_
                refine zv_addw hB zd115_145 ?_
                refine zv_ild hB zd115_146 rfl rfl ?_
                obtain ⟨r16, hr16, h⟩ := zi_bind h
                refine zv_cv hB (zv_emq (va2 := [.inr 0, .inl (zi_w (x1 + 1)), .inl x6]) (F := [.inr 2, .inr 6, .inl f2]) (F' := [.inr 2, .inr 6, .inl f2]) (G := [r12.2, g1, g2, (zv_up g3 x4 x8), g4]) (G' := [r16.2, g1, g2, (zv_up g3 x4 x8), g4]) (ρ := [0, 2, 3, 1, 6]) (φ := [0, 1]) (ψ := [1, 0, 4]) [some 0, some 1, none] [some 1, some 0, none, none, some 2] zyw_Matcher_agree zyw_Matcher_search zye_Matcher_search (by decide +kernel) (zt_Matcher_agree hr16) ⟨⟨_, rfl, fun _ => rfl⟩, ⟨_, rfl, fun _ => rfl⟩, trivial⟩ ⟨rfl, rfl, rfl, trivial⟩ rfl rfl rfl rfl rfl rfl rfl) zd115_148 zxt118 rfl (by show 1 + 1 ≤ 2 + (dp + 1); omega) (by show 8 + (10 + 11) + 60 * (1) ≤ 60 * (2 + (dp + 1)); omega) rfl ?_
                refine zv_zeq hB zd115_151 rfl (fun hc17 => ?_) (fun hc17 => ?_)
                · rw [if_pos hc17] at h
                  refine zv_ald hB zd115_178 rfl rfl rfl ?_
                  refine zv_dup hB zd115_179 rfl ?_
                  refine zv_getf hB zd115_180 rfl rfl (fun _ _ => ?_)
                  refine zv_con hB zd115_183 rfl ?_
                  refine zv_addw hB zd115_184 ?_
                  refine zv_putf hB zd115_185 rfl rfl (fun h => by cases h) rfl ?_
                  refine zv_iincw hB zd115_188 rfl rfl ?_
                  refine zv_goto hB zd115_191 rfl ?_
                  refine zv_wk hB (L' := [.inr 0, .inl x1, .inr 1000, .inl x3, .inl x4, .inl (zi_and x5 (zi_xor (g2 x8) (-1))), .inl x6, .inl x7, .inl (zi_w (x8 + 1)), .inr 1000]) (F' := [.inr 2, .inr 6, .inl (zi_w (f2 + 1))]) ⟨fun _ => rfl, fun _ => rfl, fun (h : zv_is (.inr 1000)) => (Nat.lt_irrefl 1000 h).elim, fun _ => rfl, fun _ => rfl, fun _ => rfl, fun _ => rfl, fun _ => rfl, fun _ => rfl, fun (h : zv_is (.inr 1000)) => (Nat.lt_irrefl 1000 h).elim, trivial⟩ ⟨fun _ => rfl, fun _ => rfl, fun _ => rfl, trivial⟩ ?_
                  exact ih _ _ _ _ _ _ _ _ _ _ q h hK
                · rw [if_neg hc17] at h
                  refine zv_ild hB zd115_154 rfl rfl ?_
                  refine zv_ild hB zd115_156 rfl rfl ?_
                  refine zv_ald hB zd115_158 rfl rfl rfl ?_
                  refine zv_ild hB zd115_159 rfl rfl ?_
                  refine zv_con hB zd115_160 rfl ?_
                  refine zv_addw hB zd115_161 ?_
                  refine zv_ild hB zd115_162 rfl rfl ?_
                  refine zv_ild hB zd115_164 rfl rfl ?_
                  refine zv_ild hB zd115_165 rfl rfl ?_
                  refine zv_subw hB zd115_167 ?_
                  obtain ⟨r18, hr18, h⟩ := zi_bind h
                  refine zv_cv hB (show zv_Fn _ _ _ zy_Matcher_search _ _ [.inr 0, .inl (zi_w (x1 + 1)), .inl x6, .inl (zi_w (x3 - x7))] [.inr 2, .inr 6, .inl f2] [r16.2, g1, g2, (zv_up g3 x4 x8), g4] (some r18.1) [.inr 2, .inr 6, .inl r18.2.1] [r18.2.2.1, g1, g2, r18.2.2.2, g4] from ih0 _ _ _ _ _ _ _ _ _ r18 hr18) zd115_168 zxt115 rfl (by show 2 + dp + 1 ≤ 2 + (dp + 1); omega) (by show 8 + (10 + 11) + 60 * (2 + dp) ≤ 60 * (2 + (dp + 1)); omega) rfl ?_
                  refine zv_mulw hB zd115_171 ?_
                  refine zv_addw hB zd115_172 ?_
                  refine zv_ist hB zd115_173 rfl rfl rfl ?_
                  refine zv_goto hB zd115_175 rfl ?_
                  refine zv_iincw hB zd115_188 rfl rfl ?_
                  refine zv_goto hB zd115_191 rfl ?_
                  refine zv_wk hB (L' := [.inr 0, .inl x1, .inr 1000, .inl x3, .inl x4, .inl (zi_and x5 (zi_xor (g2 x8) (-1))), .inl x6, .inl (zi_w (x7 + (zi_w (r10 * r18.1)))), .inl (zi_w (x8 + 1)), .inr 1000]) (F' := [.inr 2, .inr 6, .inl r18.2.1]) ⟨fun _ => rfl, fun _ => rfl, fun (h : zv_is (.inr 1000)) => (Nat.lt_irrefl 1000 h).elim, fun _ => rfl, fun _ => rfl, fun _ => rfl, fun _ => rfl, fun _ => rfl, fun _ => rfl, fun (h : zv_is (.inr 1000)) => (Nat.lt_irrefl 1000 h).elim, trivial⟩ ⟨fun _ => rfl, fun _ => rfl, fun _ => rfl, trivial⟩ ?_
                  exact ih _ _ _ _ _ _ _ _ _ _ q h hK
  unfold zm_Matcher_search at h
  refine zv_ild hB zd115_0 rfl rfl ?_
  refine zv_zeq hB zd115_1 rfl (fun hc1 => ?_) (fun hc1 => ?_)
  · rw [if_pos hc1] at h
    refine zv_ild hB zd115_10 rfl rfl ?_
    refine zv_zne hB zd115_11 rfl (fun hc => absurd hc (by omega)) (fun _ => ?_)
    refine zv_con hB zd115_14 rfl ?_
    refine zv_goto hB zd115_15 rfl ?_
    have hw := Option.some.inj h
    subst hw
    exact hret _ _ _ _ _ zd115_19 (by trivial) ⟨rfl, rfl, rfl⟩
  · rw [if_neg hc1] at h
    refine zv_ild hB zd115_4 rfl rfl ?_
    refine zv_con hB zd115_5 rfl ?_
    refine zv_clt hB zd115_7 rfl (fun hc3 => ?_) (fun hc3 => ?_)
    · rw [if_pos hc3] at h
      refine zv_ald hB zd115_20 rfl rfl rfl ?_
      refine zv_ild hB zd115_21 rfl rfl ?_
      refine zv_ild hB zd115_22 rfl rfl ?_
      obtain ⟨r4, hr4, h⟩ := zi_bind h
      refine zv_cv hB (zv_emq (va2 := [.inr 0, .inl x1, .inl x2]) (F := [.inr 2, .inr 6, .inl f2]) (F' := [.inr 2, .inr 6, .inl f2]) (G := [g0, g1, g2, g3, g4]) (G' := [g0, g1, g2, g3, g4]) (ρ := [0, 1, 2, 3]) (φ := [0]) (ψ := [0, 1]) [some 0, none, none] [some 0, some 1, none, none, none] zyw_Matcher_tightest zyw_Matcher_search zye_Matcher_search (by decide +kernel) (zt_Matcher_tightest hr4) ⟨⟨_, rfl, fun _ => rfl⟩, trivial⟩ ⟨rfl, rfl, trivial⟩ rfl rfl rfl rfl rfl rfl rfl) zd115_23 zxt116 rfl (by show 1 + 1 ≤ 2 + (dp + 1); omega) (by show 8 + (8 + 11) + 60 * (1) ≤ 60 * (2 + (dp + 1)); omega) rfl ?_
      refine zv_ist hB zd115_26 rfl rfl rfl ?_
      refine zv_ald hB zd115_28 rfl rfl rfl ?_
      refine zv_getr hB zd115_29 rfl ?_
      refine zv_ild hB zd115_32 rfl rfl ?_
      refine zv_con hB zd115_33 rfl ?_
      refine zv_mulw hB zd115_35 ?_
      refine zv_ild hB zd115_36 rfl rfl ?_
      refine zv_addw hB zd115_38 ?_
      obtain ⟨c5, h⟩ := zi_if h
      refine zv_iald hB zd115_39 rfl rfl (zi_ix_ok c5).1 (zi_ix_ok c5).2 (fun _ _ => ?_)
      refine zv_ist hB zd115_40 rfl rfl rfl ?_
      refine zv_ild hB zd115_42 rfl rfl ?_
      refine zv_con hB zd115_43 rfl ?_
      refine zv_ild hB zd115_44 rfl rfl ?_
      refine zv_shlw hB zd115_46 ?_
      refine zv_con hB zd115_47 rfl ?_
      refine zv_xorw hB zd115_48 ?_
      refine zv_andw hB zd115_49 ?_
      refine zv_ist hB zd115_50 rfl rfl rfl ?_
      refine zv_con hB zd115_52 rfl ?_
      refine zv_ist hB zd115_53 rfl rfl rfl ?_
      refine zv_con hB zd115_55 rfl ?_
      refine zv_ist hB zd115_56 rfl rfl rfl ?_
      obtain ⟨q19, hq19, h⟩ := zi_bind h
      refine zv_wk hB (L' := [.inr 0, .inl x1, .inr 1000, .inl x3, .inl r4, .inl (g0 (zi_w ((zi_w (x1 * 8)) + r4))), .inl (zi_and x2 (zi_xor (zi_shl 1 r4) (-1))), .inl 0, .inl 0, .inr 1000]) (F' := [.inr 2, .inr 6, .inl f2]) ⟨fun _ => rfl, fun _ => rfl, fun (h : zv_is (.inr 1000)) => (Nat.lt_irrefl 1000 h).elim, fun _ => rfl, fun _ => rfl, fun _ => rfl, fun _ => rfl, fun _ => rfl, fun _ => rfl, fun (h : zv_is (.inr 1000)) => (Nat.lt_irrefl 1000 h).elim, trivial⟩ ⟨fun _ => rfl, fun _ => rfl, fun _ => rfl, trivial⟩ ?_
      refine l0 _ _ _ _ _ _ _ _ _ _ _ q19 hq19 ?_
      show good 194 [.inr 1000, .inr 1000, .inr 1000, .inl x3, .inr 1000, .inr 1000, .inr 1000, .inl q19.1, .inr 1000, .inr 1000] [] [.inr 2, .inr 6, .inl q19.2.1] [q19.2.2.1, g1, g2, q19.2.2.2, g4]
      refine zv_ild hB zd115_194 rfl rfl ?_
      refine zv_ild hB zd115_196 rfl rfl ?_
      obtain ⟨r20, hr20, h⟩ := zi_bind h
      refine zv_cs hB (zv_emq (va2 := [.inl q19.1, .inl x3]) (F := [.inr 2, .inr 6, .inl q19.2.1]) (F' := [.inr 2, .inr 6, .inl q19.2.1]) (G := [q19.2.2.1, g1, g2, q19.2.2.2, g4]) (G' := [q19.2.2.1, g1, g2, q19.2.2.2, g4]) (ρ := []) (φ := []) (ψ := []) [none, none, none] [none, none, none, none, none] zyw_Math_min zyw_Matcher_search zye_Matcher_search (by decide +kernel) (zt_Math_min hr20) trivial trivial rfl rfl rfl rfl rfl rfl rfl) zd115_197 zxt37 rfl (by show 0 + 1 ≤ 2 + (dp + 1); omega) (by show 8 + (2 + 11) + 60 * (0) ≤ 60 * (2 + (dp + 1)); omega) rfl ?_
      have hw := Option.some.inj h
      subst hw
      exact hret _ _ _ _ _ zd115_200 (by trivial) ⟨rfl, rfl, rfl⟩
    · rw [if_neg (Int.not_lt.mpr hc3)] at h
      refine zv_ild hB zd115_10 rfl rfl ?_
      refine zv_zne hB zd115_11 rfl (fun _ => ?_) (fun hc => absurd hc (by omega))
      refine zv_con hB zd115_18 rfl ?_
      have hw := Option.some.inj h
      subst hw
      exact hret _ _ _ _ _ zd115_19 (by trivial) ⟨rfl, rfl, rfl⟩
def zg_Matcher_search : Nat → Nat → Int → Int → Int → Int → (Int → Int) → (Int → Int) → (Int → Int) → (Int → Int) → (Int → Int) → Option (Int × Int × (Int → Int) × (Int → Int))
  | 0, _, _, _, _, _, _, _, _, _, _ => none
  | n + 1, _, x1, x2, x3, f2, g0, g1, g2, g3, g4 => zm_Matcher_search (zg_Matcher_search n) x1 x2 x3 f2 g0 g1 g2 g3 g4
theorem ztg_Matcher_search : ∀ n : Nat, (∀ (x1 : Int) (x2 : Int) (x3 : Int) (f2 : Int) (g0 : (Int → Int)) (g1 : (Int → Int)) (g2 : (Int → Int)) (g3 : (Int → Int)) (g4 : (Int → Int)) (o : Int × Int × (Int → Int) × (Int → Int)), zg_Matcher_search n 0 x1 x2 x3 f2 g0 g1 g2 g3 g4 = some o → zv_Fn z_TB z_cl z_KX zy_Matcher_search zxm115 (2 + n, 60 * (2 + n)) [.inr 0, .inl x1, .inl x2, .inl x3] [.inr 2, .inr 6, .inl f2] [g0, g1, g2, g3, g4] (some o.1) [.inr 2, .inr 6, .inl o.2.1] [o.2.2.1, g1, g2, o.2.2.2, g4]) := by
  intro n
  induction n with
  | zero => exact fun _ _ _ _ _ _ _ _ _ o h => absurd (show none = some o from h) (fun h => by cases h)
  | succ n ih =>
    have ih0 := ih
    exact fun _ _ _ _ _ _ _ _ _ o h => zts_Matcher_search (rc := zg_Matcher_search n) ih0 h
def zf_Matcher_search (x1 : Int) (x2 : Int) (x3 : Int) (f2 : Int) (g0 : (Int → Int)) (g1 : (Int → Int)) (g2 : (Int → Int)) (g3 : (Int → Int)) (g4 : (Int → Int)) : Option (Int × Int × (Int → Int) × (Int → Int)) := zg_Matcher_search 9 0 x1 x2 x3 f2 g0 g1 g2 g3 g4
theorem zt_Matcher_search {x1 : Int} {x2 : Int} {x3 : Int} {f2 : Int} {g0 : (Int → Int)} {g1 : (Int → Int)} {g2 : (Int → Int)} {g3 : (Int → Int)} {g4 : (Int → Int)} {o : Int × Int × (Int → Int) × (Int → Int)} (h : zf_Matcher_search x1 x2 x3 f2 g0 g1 g2 g3 g4 = some o) : zv_Fn z_TB z_cl z_KX zy_Matcher_search zxm115 (11, 660) [.inr 0, .inl x1, .inl x2, .inl x3] [.inr 2, .inr 6, .inl f2] [g0, g1, g2, g3, g4] (some o.1) [.inr 2, .inr 6, .inl o.2.1] [o.2.2.1, g1, g2, o.2.2.2, g4] := (ztg_Matcher_search 9) _ _ _ _ _ _ _ _ _ o h
/-! Matcher_settleLowest (I)Z -/
-- names: 0 Matcher('arg', 0), 1 (0, 72)(0, 8, 0), 2 Tale(0, 8, 3), 3 (0, 8)(2, 6, 2), 4 (0, 24)(0, 8, 1), 5 (0, 8)(0, 8, 2), 6 (0, 24)(0, 8, 4)
-- fields: f0 = 0.tale_, f1 = 2.names_, f2 = 0.joined_, f3 = 0.deadEnds_; arrays: g0 = 1, g1 = 3, g2 = 4, g3 = 5, g4 = 6; out: [('ret', None), ('f', 3), ('g', 0), ('g', 3)]
abbrev zy_Matcher_settleLowest : zNL := (7, [(0, 8), (2, 6)], [(0, 8, 3, 0), (2, 6, 1, 1), (0, 8, 4, 2), (0, 8, 6, 3)], [(0, 8, 0, 1), (2, 6, 2, 3), (0, 8, 1, 4), (0, 8, 2, 5)], [(1, 0, 72, 0), (3, 0, 8, 1), (4, 0, 24, 2), (5, 0, 8, 3), (6, 0, 24, 4)])
theorem zyw_Matcher_settleLowest : zv_wf zy_Matcher_settleLowest = true := by decide +kernel
theorem zye_Matcher_settleLowest : zv_ek2 zy_Matcher_settleLowest = true := by decide +kernel
def zf_Matcher_settleLowest_l0_b (x1 : Int) (x2 : Int) (f1 : Int) (g1 : (Int → Int)) (g2 : (Int → Int)) (g4 : (Int → Int)) (rec : Int → Int → (Int → Int) → (Int → Int) → Option (((Int × (Int → Int) × (Int → Int)) ⊕ (Int × Int × (Int → Int) × (Int → Int))))) (x3 : Int) (f3 : Int) (g0 : (Int → Int)) (g3 : (Int → Int)) : Option (((Int × (Int → Int) × (Int → Int)) ⊕ (Int × Int × (Int → Int) × (Int → Int)))) := if x3 < 24 then (if (zi_and (zi_shr x2 x3) 1) = 0 then (rec (zi_w (x3 + 1)) f3 g0 g3) else (cond (zi_ix x1 72) ((zf_Matcher_search 0 f1 1 f3 (zv_up g0 x1 (zi_shl 1 x3)) g1 g2 g3 g4).bind fun r5 => (if 0 < r5.1 then (some (.inr (1, r5.2.1, r5.2.2.1, r5.2.2.2))) else (rec (zi_w (x3 + 1)) r5.2.1 r5.2.2.1 r5.2.2.2))) none)) else (some (.inl (f3, g0, g3)))
def zf_Matcher_settleLowest_l0 (x1 : Int) (x2 : Int) (f1 : Int) (g1 : (Int → Int)) (g2 : (Int → Int)) (g4 : (Int → Int)) : Nat → Int → Int → (Int → Int) → (Int → Int) → Option (((Int × (Int → Int) × (Int → Int)) ⊕ (Int × Int × (Int → Int) × (Int → Int))))
  | 0, _, _, _, _ => none
  | n + 1, x3, f3, g0, g3 => zf_Matcher_settleLowest_l0_b x1 x2 f1 g1 g2 g4 (zf_Matcher_settleLowest_l0 x1 x2 f1 g1 g2 g4 n) x3 f3 g0 g3
def zf_Matcher_settleLowest (x1 : Int) (f1 : Int) (f3 : Int) (g0 : (Int → Int)) (g1 : (Int → Int)) (g2 : (Int → Int)) (g3 : (Int → Int)) (g4 : (Int → Int)) : Option (Int × Int × (Int → Int) × (Int → Int)) := cond (zi_ix x1 72) ((zf_Matcher_settleLowest_l0 x1 (g0 x1) f1 g1 g2 g4 zi_fu 0 f3 g0 g3).bind fun q7 => Sum.elim (fun e8 => (some (0, e8.1, e8.2.1, e8.2.2))) (fun w9 => some w9) q7) none
theorem zd121_0 : decode zxm121.2.1 0 = .ok (.aload_n 0, 1) := by decide +kernel
theorem zd121_1 : decode zxm121.2.1 1 = .ok (.getfield 11, 3) := by decide +kernel
theorem zd121_4 : decode zxm121.2.1 4 = .ok (.iload_n 1, 1) := by decide +kernel
theorem zd121_5 : decode zxm121.2.1 5 = .ok (.iaload, 1) := by decide +kernel
theorem zd121_6 : decode zxm121.2.1 6 = .ok (.istore_n 2, 1) := by decide +kernel
theorem zd121_7 : decode zxm121.2.1 7 = .ok (.iconst 0, 1) := by decide +kernel
theorem zd121_8 : decode zxm121.2.1 8 = .ok (.istore_n 3, 1) := by decide +kernel
theorem zd121_9 : decode zxm121.2.1 9 = .ok (.iload_n 3, 1) := by decide +kernel
theorem zd121_10 : decode zxm121.2.1 10 = .ok (.bipush 24, 2) := by decide +kernel
theorem zd121_12 : decode zxm121.2.1 12 = .ok (.if_icmp .ge 44, 3) := by decide +kernel
theorem zd121_15 : decode zxm121.2.1 15 = .ok (.iload_n 2, 1) := by decide +kernel
theorem zd121_16 : decode zxm121.2.1 16 = .ok (.iload_n 3, 1) := by decide +kernel
theorem zd121_17 : decode zxm121.2.1 17 = .ok (.ishr, 1) := by decide +kernel
theorem zd121_18 : decode zxm121.2.1 18 = .ok (.iconst 1, 1) := by decide +kernel
theorem zd121_19 : decode zxm121.2.1 19 = .ok (.iand, 1) := by decide +kernel
theorem zd121_20 : decode zxm121.2.1 20 = .ok (.ifCond .eq 30, 3) := by decide +kernel
theorem zd121_23 : decode zxm121.2.1 23 = .ok (.aload_n 0, 1) := by decide +kernel
theorem zd121_24 : decode zxm121.2.1 24 = .ok (.getfield 11, 3) := by decide +kernel
theorem zd121_27 : decode zxm121.2.1 27 = .ok (.iload_n 1, 1) := by decide +kernel
theorem zd121_28 : decode zxm121.2.1 28 = .ok (.iconst 1, 1) := by decide +kernel
theorem zd121_29 : decode zxm121.2.1 29 = .ok (.iload_n 3, 1) := by decide +kernel
theorem zd121_30 : decode zxm121.2.1 30 = .ok (.ishl, 1) := by decide +kernel
theorem zd121_31 : decode zxm121.2.1 31 = .ok (.iastore, 1) := by decide +kernel
theorem zd121_32 : decode zxm121.2.1 32 = .ok (.aload_n 0, 1) := by decide +kernel
theorem zd121_33 : decode zxm121.2.1 33 = .ok (.iconst 0, 1) := by decide +kernel
theorem zd121_34 : decode zxm121.2.1 34 = .ok (.aload_n 0, 1) := by decide +kernel
theorem zd121_35 : decode zxm121.2.1 35 = .ok (.getfield 30, 3) := by decide +kernel
theorem zd121_38 : decode zxm121.2.1 38 = .ok (.getfield 41, 3) := by decide +kernel
theorem zd121_41 : decode zxm121.2.1 41 = .ok (.iconst 1, 1) := by decide +kernel
theorem zd121_42 : decode zxm121.2.1 42 = .ok (.invokevirtual 44, 3) := by decide +kernel
theorem zd121_45 : decode zxm121.2.1 45 = .ok (.ifCond .le 5, 3) := by decide +kernel
theorem zd121_48 : decode zxm121.2.1 48 = .ok (.iconst 1, 1) := by decide +kernel
theorem zd121_49 : decode zxm121.2.1 49 = .ok (.ireturn, 1) := by decide +kernel
theorem zd121_50 : decode zxm121.2.1 50 = .ok (.iinc 3 1, 3) := by decide +kernel
theorem zd121_53 : decode zxm121.2.1 53 = .ok (.goto (-44), 3) := by decide +kernel
theorem zd121_56 : decode zxm121.2.1 56 = .ok (.iconst 0, 1) := by decide +kernel
theorem zd121_57 : decode zxm121.2.1 57 = .ok (.ireturn, 1) := by decide +kernel
theorem zt_Matcher_settleLowest {x1 : Int} {f1 : Int} {f3 : Int} {g0 : (Int → Int)} {g1 : (Int → Int)} {g2 : (Int → Int)} {g3 : (Int → Int)} {g4 : (Int → Int)} {o : Int × Int × (Int → Int) × (Int → Int)} (h : zf_Matcher_settleLowest x1 f1 f3 g0 g1 g2 g3 g4 = some o) : zv_Fn z_TB z_cl z_KX zy_Matcher_settleLowest zxm121 (12, 720) [.inr 0, .inl x1] [.inr 2, .inl f1, .inr 6, .inl f3] [g0, g1, g2, g3, g4] (some o.1) [.inr 2, .inl f1, .inr 6, .inl o.2.1] [o.2.2.1, g1, g2, o.2.2.2, g4] := zv_meth (K := (z_KF4, z_KC4, z_KL4, z_KT4, [], [], [], none)) (FT := z_FT) (MT := z_MT) (n := 2) zxp121 (z_ks4 _ (fun _ h => List.mem_cons_of_mem _ h) _ _ _ _ (fun j r h _ => by cases h)) (fun _ _ => zs_KX_p) zyw_Matcher_settleLowest (fun va F G h => by obtain ⟨rfl, _⟩ := h; rfl) (fun va F G h => by obtain ⟨rfl, _⟩ := h; rfl) rfl fun good va F G hB hret hvret hP => by
  obtain ⟨rfl, rfl, rfl⟩ := hP
  have l0 : ∀ (n : Nat) (x1 : Int) (x2 : Int) (x3 : Int) (f3 : Int) (g0 : (Int → Int)) (g3 : (Int → Int)) (q : ((Int × (Int → Int) × (Int → Int)) ⊕ (Int × Int × (Int → Int) × (Int → Int)))), zf_Matcher_settleLowest_l0 x1 x2 f1 g1 g2 g4 n x3 f3 g0 g3 = some q → (Sum.elim (fun e : Int × (Int → Int) × (Int → Int) => good 56 [.inr 1000, .inr 1000, .inr 1000, .inr 1000] [] [.inr 2, .inl f1, .inr 6, .inl e.1] [e.2.1, g1, g2, e.2.2, g4]) (fun w : Int × Int × (Int → Int) × (Int → Int) => w = o) q) → good 9 [.inr 0, .inl x1, .inl x2, .inl x3] [] [.inr 2, .inl f1, .inr 6, .inl f3] [g0, g1, g2, g3, g4] := by
    intro n
    induction n with
    | zero => intro x1 x2 x3 f3 g0 g3 q h; exact absurd (show none = some q from h) (fun h => by cases h)
    | succ n ih =>
      intro x1 x2 x3 f3 g0 g3 q h hK
      replace h : zf_Matcher_settleLowest_l0_b x1 x2 f1 g1 g2 g4 (zf_Matcher_settleLowest_l0 x1 x2 f1 g1 g2 g4 n) x3 f3 g0 g3 = some q := h
      unfold zf_Matcher_settleLowest_l0_b at h
      refine zv_ild hB zd121_9 rfl rfl ?_
      refine zv_con hB zd121_10 rfl ?_
      refine zv_cge hB zd121_12 rfl (fun hc2 => ?_) (fun hc2 => ?_)
      · rw [if_neg (Int.not_lt.mpr hc2)] at h
        have hq := Option.some.inj h
        subst hq
        refine zv_wk hB (L' := [.inr 1000, .inr 1000, .inr 1000, .inr 1000]) (F' := [.inr 2, .inl f1, .inr 6, .inl f3]) ⟨fun (h : zv_is (.inr 1000)) => (Nat.lt_irrefl 1000 h).elim, fun (h : zv_is (.inr 1000)) => (Nat.lt_irrefl 1000 h).elim, fun (h : zv_is (.inr 1000)) => (Nat.lt_irrefl 1000 h).elim, fun (h : zv_is (.inr 1000)) => (Nat.lt_irrefl 1000 h).elim, trivial⟩ ⟨fun _ => rfl, fun _ => rfl, fun _ => rfl, fun _ => rfl, trivial⟩ ?_
        exact hK
      · rw [if_pos hc2] at h
        refine zv_ild hB zd121_15 rfl rfl ?_
        refine zv_ild hB zd121_16 rfl rfl ?_
        refine zv_shrw hB zd121_17 ?_
        refine zv_con hB zd121_18 rfl ?_
        refine zv_andw hB zd121_19 ?_
        refine zv_zeq hB zd121_20 rfl (fun hc3 => ?_) (fun hc3 => ?_)
        · rw [if_pos hc3] at h
          refine zv_iincw hB zd121_50 rfl rfl ?_
          refine zv_goto hB zd121_53 rfl ?_
          exact ih _ _ _ _ _ _ q h hK
        · rw [if_neg hc3] at h
          refine zv_ald hB zd121_23 rfl rfl rfl ?_
          refine zv_getr hB zd121_24 rfl ?_
          refine zv_ild hB zd121_27 rfl rfl ?_
          refine zv_con hB zd121_28 rfl ?_
          refine zv_ild hB zd121_29 rfl rfl ?_
          refine zv_shlw hB zd121_30 ?_
          obtain ⟨c4, h⟩ := zi_if h
          refine zv_iast hB zd121_31 rfl rfl (zi_ix_ok c4).1 (zi_ix_ok c4).2 ?_
          refine zv_ald hB zd121_32 rfl rfl rfl ?_
          refine zv_con hB zd121_33 rfl ?_
          refine zv_ald hB zd121_34 rfl rfl rfl ?_
          refine zv_getq hB zd121_35 rfl rfl rfl ?_
          refine zv_getf hB zd121_38 rfl rfl (fun _ _ => ?_)
          refine zv_con hB zd121_41 rfl ?_
          obtain ⟨r5, hr5, h⟩ := zi_bind h
          refine zv_cv hB (zv_emq (va2 := [.inr 0, .inl 0, .inl f1, .inl 1]) (F := [.inr 2, .inl f1, .inr 6, .inl f3]) (F' := [.inr 2, .inl f1, .inr 6, .inl r5.2.1]) (G := [(zv_up g0 x1 (zi_shl 1 x3)), g1, g2, g3, g4]) (G' := [r5.2.2.1, g1, g2, r5.2.2.2, g4]) (ρ := [0, 1, 2, 3, 4, 5, 6]) (φ := [0, 2, 3]) (ψ := [0, 1, 2, 3, 4]) [some 0, none, some 1, some 2] [some 0, some 1, some 2, some 3, some 4] zyw_Matcher_search zyw_Matcher_settleLowest zye_Matcher_settleLowest (by decide +kernel) (zt_Matcher_search hr5) ⟨⟨_, rfl, fun _ => rfl⟩, ⟨_, rfl, fun _ => rfl⟩, ⟨_, rfl, fun _ => rfl⟩, trivial⟩ ⟨rfl, rfl, rfl, rfl, rfl, trivial⟩ rfl rfl rfl rfl rfl rfl rfl) zd121_42 zxt115 rfl (by decide) (by decide) rfl ?_
          refine zv_zle hB zd121_45 rfl (fun hc6 => ?_) (fun hc6 => ?_)
          · rw [if_neg (Int.not_lt.mpr hc6)] at h
            refine zv_iincw hB zd121_50 rfl rfl ?_
            refine zv_goto hB zd121_53 rfl ?_
            exact ih _ _ _ _ _ _ q h hK
          · rw [if_pos hc6] at h
            refine zv_con hB zd121_48 rfl ?_
            have hw : (1, r5.2.1, r5.2.2.1, r5.2.2.2) = o := zi_rk (Option.some.inj h) hK
            subst hw
            exact hret _ _ _ _ _ zd121_49 (by constructor <;> decide) ⟨rfl, rfl, rfl⟩
  unfold zf_Matcher_settleLowest at h
  refine zv_ald hB zd121_0 rfl rfl rfl ?_
  refine zv_getr hB zd121_1 rfl ?_
  refine zv_ild hB zd121_4 rfl rfl ?_
  obtain ⟨c1, h⟩ := zi_if h
  refine zv_iald hB zd121_5 rfl rfl (zi_ix_ok c1).1 (zi_ix_ok c1).2 (fun _ _ => ?_)
  refine zv_ist hB zd121_6 rfl rfl rfl ?_
  refine zv_con hB zd121_7 rfl ?_
  refine zv_ist hB zd121_8 rfl rfl rfl ?_
  obtain ⟨q7, hq7, h⟩ := zi_bind h
  refine l0 _ _ _ _ _ _ _ q7 hq7 ?_
  rcases q7 with e8 | w9
  · replace h := zi_sl h
    show good 56 [.inr 1000, .inr 1000, .inr 1000, .inr 1000] [] [.inr 2, .inl f1, .inr 6, .inl e8.1] [e8.2.1, g1, g2, e8.2.2, g4]
    refine zv_con hB zd121_56 rfl ?_
    have hw := Option.some.inj h
    subst hw
    exact hret _ _ _ _ _ zd121_57 (by constructor <;> decide) ⟨rfl, rfl, rfl⟩
  · exact Option.some.inj h
/-! Matcher_findFirst_24 (LStarTales$Tale;I[I)Z -/
-- names: 0 Matcher('arg', 0), 1 Tale('arg', 1), 2 (0, 24)('arg', 3), 3 (0, 72)(0, 8, 0), 4 (0, 8)(1, 6, 2), 5 (0, 24)(0, 8, 1), 6 (0, 8)(0, 8, 2)
-- fields: f0 = 0.tale_, f1 = 0.joined_, f2 = 0.deadEnds_, f3 = 1.names_; arrays: g0 = 2, g1 = 3, g2 = 4, g3 = 5, g4 = 6; out: [('ret', None), ('f', 2), ('g', 1), ('g', 3), ('g', 4)]
abbrev zy_Matcher_findFirst_24 : zNL := (7, [(0, 8), (1, 6)], [(0, 8, 3, 0), (0, 8, 4, 1), (0, 8, 6, 2), (1, 6, 1, 3)], [(0, 8, 0, 3), (1, 6, 2, 4), (0, 8, 1, 5), (0, 8, 2, 6)], [(2, 0, 24, 0), (3, 0, 72, 1), (4, 0, 8, 2), (5, 0, 24, 3), (6, 0, 8, 4)])
theorem zyw_Matcher_findFirst_24 : zv_wf zy_Matcher_findFirst_24 = true := by decide +kernel
theorem zye_Matcher_findFirst_24 : zv_ek2 zy_Matcher_findFirst_24 = true := by decide +kernel
def zf_Matcher_findFirst_24_l0_b (f3 : Int) (g0 : (Int → Int)) (g2 : (Int → Int)) (g3 : (Int → Int)) (rec : Int → Int → (Int → Int) → (Int → Int) → Option (((Int × (Int → Int) × (Int → Int)) ⊕ (Int × Int × (Int → Int) × (Int → Int) × (Int → Int))))) (x4 : Int) (f2 : Int) (g1 : (Int → Int)) (g4 : (Int → Int)) : Option (((Int × (Int → Int) × (Int → Int)) ⊕ (Int × Int × (Int → Int) × (Int → Int) × (Int → Int)))) := if x4 < 8 then (if (zi_and (zi_shr f3 x4) 1) = 0 then (rec (zi_w (x4 + 1)) f2 g1 g4) else ((zf_Matcher_settleLowest x4 f3 f2 g1 g2 g3 g4 g0).bind fun r4 => (if r4.1 = 0 then (some (.inr (0, r4.2.1, r4.2.2.1, g3, r4.2.2.2))) else (rec (zi_w (x4 + 1)) r4.2.1 r4.2.2.1 r4.2.2.2)))) else (some (.inl (f2, g1, g4)))
def zf_Matcher_findFirst_24_l0 (f3 : Int) (g0 : (Int → Int)) (g2 : (Int → Int)) (g3 : (Int → Int)) : Nat → Int → Int → (Int → Int) → (Int → Int) → Option (((Int × (Int → Int) × (Int → Int)) ⊕ (Int × Int × (Int → Int) × (Int → Int) × (Int → Int))))
  | 0, _, _, _, _ => none
  | n + 1, x4, f2, g1, g4 => zf_Matcher_findFirst_24_l0_b f3 g0 g2 g3 (zf_Matcher_findFirst_24_l0 f3 g0 g2 g3 n) x4 f2 g1 g4
def zf_Matcher_findFirst_24 (x2 : Int) (f2 : Int) (f3 : Int) (g0 : (Int → Int)) (g1 : (Int → Int)) (g2 : (Int → Int)) (g3 : (Int → Int)) (g4 : (Int → Int)) : Option (Int × Int × (Int → Int) × (Int → Int) × (Int → Int)) := (zf_Matcher_begin_24 x2 f2 g0 g1 g2 g3).bind fun r1 => ((zf_Matcher_findFirst_24_l0 f3 g0 g2 r1.2.2 zi_fu 0 r1.1 r1.2.1 g4).bind fun q6 => Sum.elim (fun e7 => (some (1, e7.1, e7.2.1, r1.2.2, e7.2.2))) (fun w8 => some w8) q6)
theorem zd120_0 : decode zxm120.2.1 0 = .ok (.aload_n 0, 1) := by decide +kernel
theorem zd120_1 : decode zxm120.2.1 1 = .ok (.aload_n 1, 1) := by decide +kernel
theorem zd120_2 : decode zxm120.2.1 2 = .ok (.iload_n 2, 1) := by decide +kernel
theorem zd120_3 : decode zxm120.2.1 3 = .ok (.aload_n 3, 1) := by decide +kernel
theorem zd120_4 : decode zxm120.2.1 4 = .ok (.invokevirtual 37, 3) := by decide +kernel
theorem zd120_7 : decode zxm120.2.1 7 = .ok (.iconst 0, 1) := by decide +kernel
theorem zd120_8 : decode zxm120.2.1 8 = .ok (.istore 4, 2) := by decide +kernel
theorem zd120_10 : decode zxm120.2.1 10 = .ok (.iload 4, 2) := by decide +kernel
theorem zd120_12 : decode zxm120.2.1 12 = .ok (.bipush 8, 2) := by decide +kernel
theorem zd120_14 : decode zxm120.2.1 14 = .ok (.if_icmp .ge 35, 3) := by decide +kernel
theorem zd120_17 : decode zxm120.2.1 17 = .ok (.aload_n 0, 1) := by decide +kernel
theorem zd120_18 : decode zxm120.2.1 18 = .ok (.getfield 30, 3) := by decide +kernel
theorem zd120_21 : decode zxm120.2.1 21 = .ok (.getfield 41, 3) := by decide +kernel
theorem zd120_24 : decode zxm120.2.1 24 = .ok (.iload 4, 2) := by decide +kernel
theorem zd120_26 : decode zxm120.2.1 26 = .ok (.ishr, 1) := by decide +kernel
theorem zd120_27 : decode zxm120.2.1 27 = .ok (.iconst 1, 1) := by decide +kernel
theorem zd120_28 : decode zxm120.2.1 28 = .ok (.iand, 1) := by decide +kernel
theorem zd120_29 : decode zxm120.2.1 29 = .ok (.ifCond .eq 14, 3) := by decide +kernel
theorem zd120_32 : decode zxm120.2.1 32 = .ok (.aload_n 0, 1) := by decide +kernel
theorem zd120_33 : decode zxm120.2.1 33 = .ok (.iload 4, 2) := by decide +kernel
theorem zd120_35 : decode zxm120.2.1 35 = .ok (.invokevirtual 48, 3) := by decide +kernel
theorem zd120_38 : decode zxm120.2.1 38 = .ok (.ifCond .ne 5, 3) := by decide +kernel
theorem zd120_41 : decode zxm120.2.1 41 = .ok (.iconst 0, 1) := by decide +kernel
theorem zd120_42 : decode zxm120.2.1 42 = .ok (.ireturn, 1) := by decide +kernel
theorem zd120_43 : decode zxm120.2.1 43 = .ok (.iinc 4 1, 3) := by decide +kernel
theorem zd120_46 : decode zxm120.2.1 46 = .ok (.goto (-36), 3) := by decide +kernel
theorem zd120_49 : decode zxm120.2.1 49 = .ok (.iconst 1, 1) := by decide +kernel
theorem zd120_50 : decode zxm120.2.1 50 = .ok (.ireturn, 1) := by decide +kernel
theorem zt_Matcher_findFirst_24 {x2 : Int} {f2 : Int} {f3 : Int} {g0 : (Int → Int)} {g1 : (Int → Int)} {g2 : (Int → Int)} {g3 : (Int → Int)} {g4 : (Int → Int)} {o : Int × Int × (Int → Int) × (Int → Int) × (Int → Int)} (h : zf_Matcher_findFirst_24 x2 f2 f3 g0 g1 g2 g3 g4 = some o) : zv_Fn z_TB z_cl z_KX zy_Matcher_findFirst_24 zxm120 (13, 780) [.inr 0, .inr 1, .inl x2, .inr 2] [.inr 1000, .inr 1000, .inl f2, .inl f3] [g0, g1, g2, g3, g4] (some o.1) [.inr 1, .inr 2, .inl o.2.1, .inl f3] [g0, o.2.2.1, g2, o.2.2.2.1, o.2.2.2.2] := zv_meth (K := (z_KF4, z_KC4, z_KL4, z_KT4, [], [], [], none)) (FT := z_FT) (MT := z_MT) (n := 4) zxp120 (z_ks4 _ (fun _ h => List.mem_cons_of_mem _ h) _ _ _ _ (fun j r h _ => by cases h)) (fun _ _ => zs_KX_p) zyw_Matcher_findFirst_24 (fun va F G h => by obtain ⟨rfl, _⟩ := h; rfl) (fun va F G h => by obtain ⟨rfl, _⟩ := h; rfl) rfl fun good va F G hB hret hvret hP => by
  obtain ⟨rfl, rfl, rfl⟩ := hP
  have l0 : ∀ (n : Nat) (x4 : Int) (f2 : Int) (g1 : (Int → Int)) (g3 : (Int → Int)) (g4 : (Int → Int)) (q : ((Int × (Int → Int) × (Int → Int)) ⊕ (Int × Int × (Int → Int) × (Int → Int) × (Int → Int)))), zf_Matcher_findFirst_24_l0 f3 g0 g2 g3 n x4 f2 g1 g4 = some q → (Sum.elim (fun e : Int × (Int → Int) × (Int → Int) => good 49 [.inr 1000, .inr 1000, .inr 1000, .inr 1000, .inr 1000] [] [.inr 1, .inr 2, .inl e.1, .inl f3] [g0, e.2.1, g2, g3, e.2.2]) (fun w : Int × Int × (Int → Int) × (Int → Int) × (Int → Int) => w = o) q) → good 10 [.inr 0, .inr 1000, .inr 1000, .inr 1000, .inl x4] [] [.inr 1, .inr 2, .inl f2, .inl f3] [g0, g1, g2, g3, g4] := by
    intro n
    induction n with
    | zero => intro x4 f2 g1 g3 g4 q h; exact absurd (show none = some q from h) (fun h => by cases h)
    | succ n ih =>
      intro x4 f2 g1 g3 g4 q h hK
      replace h : zf_Matcher_findFirst_24_l0_b f3 g0 g2 g3 (zf_Matcher_findFirst_24_l0 f3 g0 g2 g3 n) x4 f2 g1 g4 = some q := h
      unfold zf_Matcher_findFirst_24_l0_b at h
      refine zv_ild hB zd120_10 rfl rfl ?_
      refine zv_con hB zd120_12 rfl ?_
      refine zv_cge hB zd120_14 rfl (fun hc2 => ?_) (fun hc2 => ?_)
      · rw [if_neg (Int.not_lt.mpr hc2)] at h
        have hq := Option.some.inj h
        subst hq
        refine zv_wk hB (L' := [.inr 1000, .inr 1000, .inr 1000, .inr 1000, .inr 1000]) (F' := [.inr 1, .inr 2, .inl f2, .inl f3]) ⟨fun (h : zv_is (.inr 1000)) => (Nat.lt_irrefl 1000 h).elim, fun (h : zv_is (.inr 1000)) => (Nat.lt_irrefl 1000 h).elim, fun (h : zv_is (.inr 1000)) => (Nat.lt_irrefl 1000 h).elim, fun (h : zv_is (.inr 1000)) => (Nat.lt_irrefl 1000 h).elim, fun (h : zv_is (.inr 1000)) => (Nat.lt_irrefl 1000 h).elim, trivial⟩ ⟨fun _ => rfl, fun _ => rfl, fun _ => rfl, fun _ => rfl, trivial⟩ ?_
        exact hK
      · rw [if_pos hc2] at h
        refine zv_ald hB zd120_17 rfl rfl rfl ?_
        refine zv_getq hB zd120_18 rfl rfl rfl ?_
        refine zv_getf hB zd120_21 rfl rfl (fun _ _ => ?_)
        refine zv_ild hB zd120_24 rfl rfl ?_
        refine zv_shrw hB zd120_26 ?_
        refine zv_con hB zd120_27 rfl ?_
        refine zv_andw hB zd120_28 ?_
        refine zv_zeq hB zd120_29 rfl (fun hc3 => ?_) (fun hc3 => ?_)
        · rw [if_pos hc3] at h
          refine zv_iincw hB zd120_43 rfl rfl ?_
          refine zv_goto hB zd120_46 rfl ?_
          exact ih _ _ _ _ _ q h hK
        · rw [if_neg hc3] at h
          refine zv_ald hB zd120_32 rfl rfl rfl ?_
          refine zv_ild hB zd120_33 rfl rfl ?_
          obtain ⟨r4, hr4, h⟩ := zi_bind h
          refine zv_cv hB (zv_emq (va2 := [.inr 0, .inl x4]) (F := [.inr 1, .inr 2, .inl f2, .inl f3]) (F' := [.inr 1, .inr 2, .inl r4.2.1, .inl f3]) (G := [g0, g1, g2, g3, g4]) (G' := [g0, r4.2.2.1, g2, g3, r4.2.2.2]) (ρ := [0, 3, 1, 4, 5, 6, 2]) (φ := [0, 3, 1, 2]) (ψ := [1, 2, 3, 4, 0]) [some 0, some 2, some 3, some 1] [some 4, some 0, some 1, some 2, some 3] zyw_Matcher_settleLowest zyw_Matcher_findFirst_24 zye_Matcher_findFirst_24 (by decide +kernel) (zt_Matcher_settleLowest hr4) ⟨⟨_, rfl, fun _ => rfl⟩, ⟨_, rfl, fun _ => rfl⟩, ⟨_, rfl, fun _ => rfl⟩, ⟨_, rfl, fun _ => rfl⟩, trivial⟩ ⟨rfl, rfl, rfl, rfl, rfl, trivial⟩ rfl rfl rfl rfl rfl rfl rfl) zd120_35 zxt121 rfl (by decide) (by decide) rfl ?_
          refine zv_zne hB zd120_38 rfl (fun hc5 => ?_) (fun hc5 => ?_)
          · rw [if_neg hc5] at h
            refine zv_iincw hB zd120_43 rfl rfl ?_
            refine zv_goto hB zd120_46 rfl ?_
            exact ih _ _ _ _ _ q h hK
          · rw [if_pos hc5] at h
            refine zv_con hB zd120_41 rfl ?_
            have hw : (0, r4.2.1, r4.2.2.1, g3, r4.2.2.2) = o := zi_rk (Option.some.inj h) hK
            subst hw
            exact hret _ _ _ _ _ zd120_42 (by constructor <;> decide) ⟨rfl, rfl, rfl⟩
  unfold zf_Matcher_findFirst_24 at h
  refine zv_ald hB zd120_0 rfl rfl rfl ?_
  refine zv_ald hB zd120_1 rfl rfl rfl ?_
  refine zv_ild hB zd120_2 rfl rfl ?_
  refine zv_ald hB zd120_3 rfl rfl rfl ?_
  obtain ⟨r1, hr1, h⟩ := zi_bind h
  refine zv_cv hB (zv_emq (va2 := [.inr 0, .inr 1, .inl x2, .inr 2]) (F := [.inr 1000, .inr 1000, .inl f2, .inl f3]) (F' := [.inr 1, .inr 2, .inl r1.1, .inl f3]) (G := [g0, g1, g2, g3, g4]) (G' := [g0, r1.2.1, g2, r1.2.2, g4]) (ρ := [0, 1, 2, 3, 4, 5]) (φ := [0, 1, 2]) (ψ := [0, 1, 2, 3]) [some 0, some 1, some 2, none] [some 0, some 1, some 2, some 3, none] zyw_Matcher_begin_24 zyw_Matcher_findFirst_24 zye_Matcher_findFirst_24 (by decide +kernel) (zt_Matcher_begin_24 hr1) ⟨⟨_, rfl, fun (h : zv_is (.inr 1000)) => (Nat.lt_irrefl 1000 h).elim⟩, ⟨_, rfl, fun (h : zv_is (.inr 1000)) => (Nat.lt_irrefl 1000 h).elim⟩, ⟨_, rfl, fun _ => rfl⟩, trivial⟩ ⟨rfl, rfl, rfl, rfl, trivial⟩ rfl rfl rfl rfl rfl rfl rfl) zd120_4 zxt113 rfl (by decide) (by decide) rfl ?_
  refine zv_con hB zd120_7 rfl ?_
  refine zv_ist hB zd120_8 rfl rfl rfl ?_
  obtain ⟨q6, hq6, h⟩ := zi_bind h
  refine zv_wk hB (L' := [.inr 0, .inr 1000, .inr 1000, .inr 1000, .inl 0]) (F' := [.inr 1, .inr 2, .inl r1.1, .inl f3]) ⟨fun _ => rfl, fun (h : zv_is (.inr 1000)) => (Nat.lt_irrefl 1000 h).elim, fun (h : zv_is (.inr 1000)) => (Nat.lt_irrefl 1000 h).elim, fun (h : zv_is (.inr 1000)) => (Nat.lt_irrefl 1000 h).elim, fun _ => rfl, trivial⟩ ⟨fun _ => rfl, fun _ => rfl, fun _ => rfl, fun _ => rfl, trivial⟩ ?_
  refine l0 _ _ _ _ _ _ q6 hq6 ?_
  rcases q6 with e7 | w8
  · replace h := zi_sl h
    show good 49 [.inr 1000, .inr 1000, .inr 1000, .inr 1000, .inr 1000] [] [.inr 1, .inr 2, .inl e7.1, .inl f3] [g0, e7.2.1, g2, r1.2.2, e7.2.2]
    refine zv_con hB zd120_49 rfl ?_
    have hw := Option.some.inj h
    subst hw
    exact hret _ _ _ _ _ zd120_50 (by constructor <;> decide) ⟨rfl, rfl, rfl⟩
  · exact Option.some.inj h
/-! Matcher_countWays_24 (LStarTales$Tale;I[II)I -/
-- names: 0 Matcher('arg', 0), 1 Tale('arg', 1), 2 (0, 24)('arg', 3), 3 (0, 72)(0, 8, 0), 4 (0, 8)(1, 6, 2), 5 (0, 24)(0, 8, 1), 6 (0, 8)(0, 8, 2)
-- fields: f0 = 0.tale_, f1 = 0.joined_, f2 = 0.deadEnds_, f3 = 1.names_; arrays: g0 = 2, g1 = 3, g2 = 4, g3 = 5, g4 = 6; out: [('ret', None), ('f', 2), ('g', 1), ('g', 3), ('g', 4)]
abbrev zy_Matcher_countWays_24 : zNL := (7, [(0, 8), (1, 6)], [(0, 8, 3, 0), (0, 8, 4, 1), (0, 8, 6, 2), (1, 6, 1, 3)], [(0, 8, 0, 3), (1, 6, 2, 4), (0, 8, 1, 5), (0, 8, 2, 6)], [(2, 0, 24, 0), (3, 0, 72, 1), (4, 0, 8, 2), (5, 0, 24, 3), (6, 0, 8, 4)])
theorem zyw_Matcher_countWays_24 : zv_wf zy_Matcher_countWays_24 = true := by decide +kernel
theorem zye_Matcher_countWays_24 : zv_ek2 zy_Matcher_countWays_24 = true := by decide +kernel
def zf_Matcher_countWays_24 (x2 : Int) (x4 : Int) (f2 : Int) (f3 : Int) (g0 : (Int → Int)) (g1 : (Int → Int)) (g2 : (Int → Int)) (g3 : (Int → Int)) (g4 : (Int → Int)) : Option (Int × Int × (Int → Int) × (Int → Int) × (Int → Int)) := (zf_Matcher_begin_24 x2 f2 g0 g1 g2 g3).bind fun r1 => ((zf_Matcher_search 0 f3 x4 r1.1 r1.2.1 g2 r1.2.2 g4 g0).bind fun r2 => (some (r2.1, r2.2.1, r2.2.2.1, r1.2.2, r2.2.2.2)))
theorem zd112_0 : decode zxm112.2.1 0 = .ok (.aload_n 0, 1) := by decide +kernel
theorem zd112_1 : decode zxm112.2.1 1 = .ok (.aload_n 1, 1) := by decide +kernel
theorem zd112_2 : decode zxm112.2.1 2 = .ok (.iload_n 2, 1) := by decide +kernel
theorem zd112_3 : decode zxm112.2.1 3 = .ok (.aload_n 3, 1) := by decide +kernel
theorem zd112_4 : decode zxm112.2.1 4 = .ok (.invokevirtual 37, 3) := by decide +kernel
theorem zd112_7 : decode zxm112.2.1 7 = .ok (.aload_n 0, 1) := by decide +kernel
theorem zd112_8 : decode zxm112.2.1 8 = .ok (.iconst 0, 1) := by decide +kernel
theorem zd112_9 : decode zxm112.2.1 9 = .ok (.aload_n 0, 1) := by decide +kernel
theorem zd112_10 : decode zxm112.2.1 10 = .ok (.getfield 30, 3) := by decide +kernel
theorem zd112_13 : decode zxm112.2.1 13 = .ok (.getfield 41, 3) := by decide +kernel
theorem zd112_16 : decode zxm112.2.1 16 = .ok (.iload 4, 2) := by decide +kernel
theorem zd112_18 : decode zxm112.2.1 18 = .ok (.invokevirtual 44, 3) := by decide +kernel
theorem zd112_21 : decode zxm112.2.1 21 = .ok (.ireturn, 1) := by decide +kernel
theorem zt_Matcher_countWays_24 {x2 : Int} {x4 : Int} {f2 : Int} {f3 : Int} {g0 : (Int → Int)} {g1 : (Int → Int)} {g2 : (Int → Int)} {g3 : (Int → Int)} {g4 : (Int → Int)} {o : Int × Int × (Int → Int) × (Int → Int) × (Int → Int)} (h : zf_Matcher_countWays_24 x2 x4 f2 f3 g0 g1 g2 g3 g4 = some o) : zv_Fn z_TB z_cl z_KX zy_Matcher_countWays_24 zxm112 (12, 720) [.inr 0, .inr 1, .inl x2, .inr 2, .inl x4] [.inr 1000, .inr 1000, .inl f2, .inl f3] [g0, g1, g2, g3, g4] (some o.1) [.inr 1, .inr 2, .inl o.2.1, .inl f3] [g0, o.2.2.1, g2, o.2.2.2.1, o.2.2.2.2] := zv_meth (K := (z_KF4, z_KC4, z_KL4, z_KT4, [], [], [], none)) (FT := z_FT) (MT := z_MT) (n := 5) zxp112 (z_ks4 _ (fun _ h => List.mem_cons_of_mem _ h) _ _ _ _ (fun j r h _ => by cases h)) (fun _ _ => zs_KX_p) zyw_Matcher_countWays_24 (fun va F G h => by obtain ⟨rfl, _⟩ := h; rfl) (fun va F G h => by obtain ⟨rfl, _⟩ := h; rfl) rfl fun good va F G hB hret hvret hP => by
  obtain ⟨rfl, rfl, rfl⟩ := hP
  unfold zf_Matcher_countWays_24 at h
  refine zv_ald hB zd112_0 rfl rfl rfl ?_
  refine zv_ald hB zd112_1 rfl rfl rfl ?_
  refine zv_ild hB zd112_2 rfl rfl ?_
  refine zv_ald hB zd112_3 rfl rfl rfl ?_
  obtain ⟨r1, hr1, h⟩ := zi_bind h
  refine zv_cv hB (zv_emq (va2 := [.inr 0, .inr 1, .inl x2, .inr 2]) (F := [.inr 1000, .inr 1000, .inl f2, .inl f3]) (F' := [.inr 1, .inr 2, .inl r1.1, .inl f3]) (G := [g0, g1, g2, g3, g4]) (G' := [g0, r1.2.1, g2, r1.2.2, g4]) (ρ := [0, 1, 2, 3, 4, 5]) (φ := [0, 1, 2]) (ψ := [0, 1, 2, 3]) [some 0, some 1, some 2, none] [some 0, some 1, some 2, some 3, none] zyw_Matcher_begin_24 zyw_Matcher_countWays_24 zye_Matcher_countWays_24 (by decide +kernel) (zt_Matcher_begin_24 hr1) ⟨⟨_, rfl, fun (h : zv_is (.inr 1000)) => (Nat.lt_irrefl 1000 h).elim⟩, ⟨_, rfl, fun (h : zv_is (.inr 1000)) => (Nat.lt_irrefl 1000 h).elim⟩, ⟨_, rfl, fun _ => rfl⟩, trivial⟩ ⟨rfl, rfl, rfl, rfl, trivial⟩ rfl rfl rfl rfl rfl rfl rfl) zd112_4 zxt113 rfl (by decide) (by decide) rfl ?_
  refine zv_ald hB zd112_7 rfl rfl rfl ?_
  refine zv_con hB zd112_8 rfl ?_
  refine zv_ald hB zd112_9 rfl rfl rfl ?_
  refine zv_getq hB zd112_10 rfl rfl rfl ?_
  refine zv_getf hB zd112_13 rfl rfl (fun _ _ => ?_)
  refine zv_ild hB zd112_16 rfl rfl ?_
  obtain ⟨r2, hr2, h⟩ := zi_bind h
  refine zv_cv hB (zv_emq (va2 := [.inr 0, .inl 0, .inl f3, .inl x4]) (F := [.inr 1, .inr 2, .inl r1.1, .inl f3]) (F' := [.inr 1, .inr 2, .inl r2.2.1, .inl f3]) (G := [g0, r1.2.1, g2, r1.2.2, g4]) (G' := [g0, r2.2.2.1, g2, r1.2.2, r2.2.2.2]) (ρ := [0, 3, 1, 4, 5, 6, 2]) (φ := [0, 1, 2]) (ψ := [1, 2, 3, 4, 0]) [some 0, some 1, some 2, none] [some 4, some 0, some 1, some 2, some 3] zyw_Matcher_search zyw_Matcher_countWays_24 zye_Matcher_countWays_24 (by decide +kernel) (zt_Matcher_search hr2) ⟨⟨_, rfl, fun _ => rfl⟩, ⟨_, rfl, fun _ => rfl⟩, ⟨_, rfl, fun _ => rfl⟩, trivial⟩ ⟨rfl, rfl, rfl, rfl, rfl, trivial⟩ rfl rfl rfl rfl rfl rfl rfl) zd112_18 zxt115 rfl (by decide) (by decide) rfl ?_
  have hw := Option.some.inj h
  subst hw
  exact hret _ _ _ _ _ zd112_21 (by trivial) ⟨rfl, rfl, rfl⟩
end
