/-! 62n.dec, 62o.dec -/
section
/-! Methods as functions, and that they do what these do. -/
/-! M_sails_288 (I[I)V -/
-- names: 0 StarTalesModel('arg', 0), 1 (0, 288)('arg', 2), 2 (0, 288)(0, 12, 54), 3 (0, 422)(0, 12, 0)
-- fields: ; arrays: g0 = 1, g1 = 2, g2 = 3; out: [('g', 0), ('g', 1)]
abbrev zy_M_sails_288 : zNL := (4, [(0, 12)], [], [(0, 12, 54, 2), (0, 12, 0, 3)], [(1, 0, 288, 0), (2, 0, 288, 1), (3, 0, 422, 2)])
theorem zyw_M_sails_288 : zv_wf zy_M_sails_288 = true := by decide +kernel
theorem zye_M_sails_288 : zv_ek2 zy_M_sails_288 = true := by decide +kernel
def zf_M_sails_288_l0_b (rec : Int → (Int → Int) → Option ((Int → Int))) (x3 : Int) (g0 : (Int → Int)) : Option ((Int → Int)) := if x3 < 288 then (cond (zi_ix x3 288) (rec (zi_w (x3 + 1)) (zv_up g0 x3 1000000000)) none) else (some g0)
def zf_M_sails_288_l0 : Nat → Int → (Int → Int) → Option ((Int → Int))
  | 0, _, _ => none
  | n + 1, x3, g0 => zf_M_sails_288_l0_b (zf_M_sails_288_l0 n) x3 g0
def zf_M_sails_288_l2_b (x4 : Int) (g2 : (Int → Int)) (rec : Int → Int → (Int → Int) → (Int → Int) → Option (Int × (Int → Int) × (Int → Int))) (x3 : Int) (x5 : Int) (g0 : (Int → Int)) (g1 : (Int → Int)) : Option (Int × (Int → Int) × (Int → Int)) := if 4 < x5 then (some (x3, g0, g1)) else (cond (zi_ix x4 288) ((zf_M_goesTo (g1 x4) x5).bind fun r8 => (if r8 = (-1) then (rec x3 (zi_w (x5 + 1)) g0 g1) else ((zf_M_isLand r8 g2).bind fun r10 => (if r10 = 0 then (cond (zi_ix r8 288) (if (g0 r8) < 1000000000 then (rec x3 (zi_w (x5 + 1)) g0 g1) else (cond (zi_ix (g1 x4) 288) (cond (zi_ix x3 288) (rec (zi_w (x3 + 1)) (zi_w (x5 + 1)) (zv_up g0 r8 (zi_w ((g0 (g1 x4)) + 1))) (zv_up g1 x3 r8)) none) none)) none) else (rec x3 (zi_w (x5 + 1)) g0 g1))))) none)
def zf_M_sails_288_l2 (x4 : Int) (g2 : (Int → Int)) : Nat → Int → Int → (Int → Int) → (Int → Int) → Option (Int × (Int → Int) × (Int → Int))
  | 0, _, _, _, _ => none
  | n + 1, x3, x5, g0, g1 => zf_M_sails_288_l2_b x4 g2 (zf_M_sails_288_l2 x4 g2 n) x3 x5 g0 g1
def zf_M_sails_288_l1_b (g2 : (Int → Int)) (rec : Int → Int → (Int → Int) → (Int → Int) → Option ((Int → Int) × (Int → Int))) (x3 : Int) (x4 : Int) (g0 : (Int → Int)) (g1 : (Int → Int)) : Option ((Int → Int) × (Int → Int)) := if x4 < x3 then ((zf_M_sails_288_l2 x4 g2 zi_fu x3 1 g0 g1).bind fun q16 => (rec q16.1 (zi_w (x4 + 1)) q16.2.1 q16.2.2)) else (some (g0, g1))
def zf_M_sails_288_l1 (g2 : (Int → Int)) : Nat → Int → Int → (Int → Int) → (Int → Int) → Option ((Int → Int) × (Int → Int))
  | 0, _, _, _, _ => none
  | n + 1, x3, x4, g0, g1 => zf_M_sails_288_l1_b g2 (zf_M_sails_288_l1 g2 n) x3 x4 g0 g1
def zf_M_sails_288 (x1 : Int) (g0 : (Int → Int)) (g1 : (Int → Int)) (g2 : (Int → Int)) : Option ((Int → Int) × (Int → Int)) := (zf_M_sails_288_l0 zi_fu 0 g0).bind fun q3 => (cond (zi_ix x1 288) ((zf_M_sails_288_l1 g2 zi_fu 1 0 (zv_up q3 x1 0) (zv_up g1 0 x1)).bind fun q17 => (some (q17.1, q17.2))) none)
theorem zd303_0 : decode zxm303.2.1 0 = .ok (.iconst 0, 1) := by decide +kernel
theorem zd303_1 : decode zxm303.2.1 1 = .ok (.istore_n 3, 1) := by decide +kernel
theorem zd303_2 : decode zxm303.2.1 2 = .ok (.iload_n 3, 1) := by decide +kernel
theorem zd303_3 : decode zxm303.2.1 3 = .ok (.sipush 288, 3) := by decide +kernel
theorem zd303_6 : decode zxm303.2.1 6 = .ok (.if_icmp .ge 15, 3) := by decide +kernel
theorem zd303_9 : decode zxm303.2.1 9 = .ok (.aload_n 2, 1) := by decide +kernel
theorem zd303_10 : decode zxm303.2.1 10 = .ok (.iload_n 3, 1) := by decide +kernel
theorem zd303_11 : decode zxm303.2.1 11 = .ok (.ldc_w 391, 3) := by decide +kernel
theorem zd303_14 : decode zxm303.2.1 14 = .ok (.iastore, 1) := by decide +kernel
theorem zd303_15 : decode zxm303.2.1 15 = .ok (.iinc 3 1, 3) := by decide +kernel
theorem zd303_18 : decode zxm303.2.1 18 = .ok (.goto (-16), 3) := by decide +kernel
theorem zd303_21 : decode zxm303.2.1 21 = .ok (.aload_n 2, 1) := by decide +kernel
theorem zd303_22 : decode zxm303.2.1 22 = .ok (.iload_n 1, 1) := by decide +kernel
theorem zd303_23 : decode zxm303.2.1 23 = .ok (.iconst 0, 1) := by decide +kernel
theorem zd303_24 : decode zxm303.2.1 24 = .ok (.iastore, 1) := by decide +kernel
theorem zd303_25 : decode zxm303.2.1 25 = .ok (.aload_n 0, 1) := by decide +kernel
theorem zd303_26 : decode zxm303.2.1 26 = .ok (.getfield 119, 3) := by decide +kernel
theorem zd303_29 : decode zxm303.2.1 29 = .ok (.iconst 0, 1) := by decide +kernel
theorem zd303_30 : decode zxm303.2.1 30 = .ok (.iload_n 1, 1) := by decide +kernel
theorem zd303_31 : decode zxm303.2.1 31 = .ok (.iastore, 1) := by decide +kernel
theorem zd303_32 : decode zxm303.2.1 32 = .ok (.iconst 1, 1) := by decide +kernel
theorem zd303_33 : decode zxm303.2.1 33 = .ok (.istore_n 3, 1) := by decide +kernel
theorem zd303_34 : decode zxm303.2.1 34 = .ok (.iconst 0, 1) := by decide +kernel
theorem zd303_35 : decode zxm303.2.1 35 = .ok (.istore 4, 2) := by decide +kernel
theorem zd303_37 : decode zxm303.2.1 37 = .ok (.iload 4, 2) := by decide +kernel
theorem zd303_39 : decode zxm303.2.1 39 = .ok (.iload_n 3, 1) := by decide +kernel
theorem zd303_40 : decode zxm303.2.1 40 = .ok (.if_icmp .ge 93, 3) := by decide +kernel
theorem zd303_43 : decode zxm303.2.1 43 = .ok (.iconst 1, 1) := by decide +kernel
theorem zd303_44 : decode zxm303.2.1 44 = .ok (.istore 5, 2) := by decide +kernel
theorem zd303_46 : decode zxm303.2.1 46 = .ok (.iload 5, 2) := by decide +kernel
theorem zd303_48 : decode zxm303.2.1 48 = .ok (.iconst 4, 1) := by decide +kernel
theorem zd303_49 : decode zxm303.2.1 49 = .ok (.if_icmp .gt 78, 3) := by decide +kernel
theorem zd303_52 : decode zxm303.2.1 52 = .ok (.aload_n 0, 1) := by decide +kernel
theorem zd303_53 : decode zxm303.2.1 53 = .ok (.getfield 119, 3) := by decide +kernel
theorem zd303_56 : decode zxm303.2.1 56 = .ok (.iload 4, 2) := by decide +kernel
theorem zd303_58 : decode zxm303.2.1 58 = .ok (.iaload, 1) := by decide +kernel
theorem zd303_59 : decode zxm303.2.1 59 = .ok (.iload 5, 2) := by decide +kernel
theorem zd303_61 : decode zxm303.2.1 61 = .ok (.invokestatic 440, 3) := by decide +kernel
theorem zd303_64 : decode zxm303.2.1 64 = .ok (.istore 6, 2) := by decide +kernel
theorem zd303_66 : decode zxm303.2.1 66 = .ok (.iload 6, 2) := by decide +kernel
theorem zd303_68 : decode zxm303.2.1 68 = .ok (.iconst (-1), 1) := by decide +kernel
theorem zd303_69 : decode zxm303.2.1 69 = .ok (.if_icmp .eq 52, 3) := by decide +kernel
theorem zd303_72 : decode zxm303.2.1 72 = .ok (.aload_n 0, 1) := by decide +kernel
theorem zd303_73 : decode zxm303.2.1 73 = .ok (.iload 6, 2) := by decide +kernel
theorem zd303_75 : decode zxm303.2.1 75 = .ok (.invokevirtual 165, 3) := by decide +kernel
theorem zd303_78 : decode zxm303.2.1 78 = .ok (.ifCond .ne 43, 3) := by decide +kernel
theorem zd303_81 : decode zxm303.2.1 81 = .ok (.aload_n 2, 1) := by decide +kernel
theorem zd303_82 : decode zxm303.2.1 82 = .ok (.iload 6, 2) := by decide +kernel
theorem zd303_84 : decode zxm303.2.1 84 = .ok (.iaload, 1) := by decide +kernel
theorem zd303_85 : decode zxm303.2.1 85 = .ok (.ldc_w 391, 3) := by decide +kernel
theorem zd303_88 : decode zxm303.2.1 88 = .ok (.if_icmp .ge 6, 3) := by decide +kernel
theorem zd303_91 : decode zxm303.2.1 91 = .ok (.goto 30, 3) := by decide +kernel
theorem zd303_94 : decode zxm303.2.1 94 = .ok (.aload_n 2, 1) := by decide +kernel
theorem zd303_95 : decode zxm303.2.1 95 = .ok (.iload 6, 2) := by decide +kernel
theorem zd303_97 : decode zxm303.2.1 97 = .ok (.aload_n 2, 1) := by decide +kernel
theorem zd303_98 : decode zxm303.2.1 98 = .ok (.aload_n 0, 1) := by decide +kernel
theorem zd303_99 : decode zxm303.2.1 99 = .ok (.getfield 119, 3) := by decide +kernel
theorem zd303_102 : decode zxm303.2.1 102 = .ok (.iload 4, 2) := by decide +kernel
theorem zd303_104 : decode zxm303.2.1 104 = .ok (.iaload, 1) := by decide +kernel
theorem zd303_105 : decode zxm303.2.1 105 = .ok (.iaload, 1) := by decide +kernel
theorem zd303_106 : decode zxm303.2.1 106 = .ok (.iconst 1, 1) := by decide +kernel
theorem zd303_107 : decode zxm303.2.1 107 = .ok (.iadd, 1) := by decide +kernel
theorem zd303_108 : decode zxm303.2.1 108 = .ok (.iastore, 1) := by decide +kernel
theorem zd303_109 : decode zxm303.2.1 109 = .ok (.aload_n 0, 1) := by decide +kernel
theorem zd303_110 : decode zxm303.2.1 110 = .ok (.getfield 119, 3) := by decide +kernel
theorem zd303_113 : decode zxm303.2.1 113 = .ok (.iload_n 3, 1) := by decide +kernel
theorem zd303_114 : decode zxm303.2.1 114 = .ok (.iload 6, 2) := by decide +kernel
theorem zd303_116 : decode zxm303.2.1 116 = .ok (.iastore, 1) := by decide +kernel
theorem zd303_117 : decode zxm303.2.1 117 = .ok (.iload_n 3, 1) := by decide +kernel
theorem zd303_118 : decode zxm303.2.1 118 = .ok (.iconst 1, 1) := by decide +kernel
theorem zd303_119 : decode zxm303.2.1 119 = .ok (.iadd, 1) := by decide +kernel
theorem zd303_120 : decode zxm303.2.1 120 = .ok (.istore_n 3, 1) := by decide +kernel
theorem zd303_121 : decode zxm303.2.1 121 = .ok (.iinc 5 1, 3) := by decide +kernel
theorem zd303_124 : decode zxm303.2.1 124 = .ok (.goto (-78), 3) := by decide +kernel
theorem zd303_127 : decode zxm303.2.1 127 = .ok (.iinc 4 1, 3) := by decide +kernel
theorem zd303_130 : decode zxm303.2.1 130 = .ok (.goto (-93), 3) := by decide +kernel
theorem zd303_133 : decode zxm303.2.1 133 = .ok (.return_, 1) := by decide +kernel
theorem zt_M_sails_288 {x1 : Int} {g0 : (Int → Int)} {g1 : (Int → Int)} {g2 : (Int → Int)} {o : (Int → Int) × (Int → Int)} (h : zf_M_sails_288 x1 g0 g1 g2 = some o) : zv_Fn z_TB z_cl z_KX zy_M_sails_288 zxm303 (1, 60) [.inr 0, .inl x1, .inr 1] [] [g0, g1, g2] none [] [o.1, o.2, g2] := zv_meth (K := (z_KF13, z_KC13, z_KL13, z_KT13, [], [], [], none)) (FT := z_FT) (MT := z_MT) (n := 3) zxp303 (z_ks13 _ (fun _ h => List.mem_cons_of_mem _ h) _ _ _ _ (fun j r h _ => by cases h)) (fun _ _ => zs_KX_p) zyw_M_sails_288 (fun va F G h => by obtain ⟨rfl, _⟩ := h; rfl) (fun va F G h => by obtain ⟨rfl, _⟩ := h; rfl) rfl fun good va F G hB hret hvret hP => by
  obtain ⟨rfl, rfl, rfl⟩ := hP
  have l0 : ∀ (n : Nat) (x1 : Int) (x3 : Int) (g0 : (Int → Int)) (g1 : (Int → Int)) (q : (Int → Int)), zf_M_sails_288_l0 n x3 g0 = some q → (good 21 [.inr 0, .inl x1, .inr 1, .inr 1000, .inr 1000, .inr 1000, .inr 1000] [] [] [q, g1, g2]) → good 2 [.inr 0, .inl x1, .inr 1, .inl x3, .inr 1000, .inr 1000, .inr 1000] [] [] [g0, g1, g2] := by
    intro n
    induction n with
    | zero => intro x1 x3 g0 g1 q h; exact absurd (show none = some q from h) (fun h => by cases h)
    | succ n ih =>
      intro x1 x3 g0 g1 q h hK
      replace h : zf_M_sails_288_l0_b (zf_M_sails_288_l0 n) x3 g0 = some q := h
      unfold zf_M_sails_288_l0_b at h
      refine zv_ild hB zd303_2 rfl rfl ?_
      refine zv_con hB zd303_3 rfl ?_
      refine zv_cge hB zd303_6 rfl (fun hc1 => ?_) (fun hc1 => ?_)
      · rw [if_neg (Int.not_lt.mpr hc1)] at h
        have hq := Option.some.inj h
        subst hq
        refine zv_wk hB (L' := [.inr 0, .inl x1, .inr 1, .inr 1000, .inr 1000, .inr 1000, .inr 1000]) (F' := []) ⟨fun _ => rfl, fun _ => rfl, fun _ => rfl, fun (h : zv_is (.inr 1000)) => (Nat.lt_irrefl 1000 h).elim, fun (h : zv_is (.inr 1000)) => (Nat.lt_irrefl 1000 h).elim, fun (h : zv_is (.inr 1000)) => (Nat.lt_irrefl 1000 h).elim, fun (h : zv_is (.inr 1000)) => (Nat.lt_irrefl 1000 h).elim, trivial⟩ trivial ?_
        exact hK
      · rw [if_pos hc1] at h
        refine zv_ald hB zd303_9 rfl rfl rfl ?_
        refine zv_ild hB zd303_10 rfl rfl ?_
        refine zv_con (n := 1000000000) hB zd303_11 (by decide +kernel) ?_
        obtain ⟨c2, h⟩ := zi_if h
        refine zv_iast hB zd303_14 rfl rfl (zi_ix_ok c2).1 (zi_ix_ok c2).2 ?_
        refine zv_iincw hB zd303_15 rfl rfl ?_
        refine zv_goto hB zd303_18 rfl ?_
        exact ih _ _ _ _ q h hK
  have l2 : ∀ (n : Nat) (x3 : Int) (x4 : Int) (x5 : Int) (g0 : (Int → Int)) (g1 : (Int → Int)) (q : Int × (Int → Int) × (Int → Int)), zf_M_sails_288_l2 x4 g2 n x3 x5 g0 g1 = some q → (good 127 [.inr 0, .inr 1000, .inr 1, .inl q.1, .inl x4, .inr 1000, .inr 1000] [] [] [q.2.1, q.2.2, g2]) → good 46 [.inr 0, .inr 1000, .inr 1, .inl x3, .inl x4, .inl x5, .inr 1000] [] [] [g0, g1, g2] := by
    intro n
    induction n with
    | zero => intro x3 x4 x5 g0 g1 q h; exact absurd (show none = some q from h) (fun h => by cases h)
    | succ n ih =>
      intro x3 x4 x5 g0 g1 q h hK
      replace h : zf_M_sails_288_l2_b x4 g2 (zf_M_sails_288_l2 x4 g2 n) x3 x5 g0 g1 = some q := h
      unfold zf_M_sails_288_l2_b at h
      refine zv_ild hB zd303_46 rfl rfl ?_
      refine zv_con hB zd303_48 rfl ?_
      refine zv_cgt hB zd303_49 rfl (fun hc6 => ?_) (fun hc6 => ?_)
      · rw [if_pos hc6] at h
        have hq := Option.some.inj h
        subst hq
        refine zv_wk hB (L' := [.inr 0, .inr 1000, .inr 1, .inl x3, .inl x4, .inr 1000, .inr 1000]) (F' := []) ⟨fun _ => rfl, fun (h : zv_is (.inr 1000)) => (Nat.lt_irrefl 1000 h).elim, fun _ => rfl, fun _ => rfl, fun _ => rfl, fun (h : zv_is (.inr 1000)) => (Nat.lt_irrefl 1000 h).elim, fun (h : zv_is (.inr 1000)) => (Nat.lt_irrefl 1000 h).elim, trivial⟩ trivial ?_
        exact hK
      · rw [if_neg (Int.not_lt.mpr hc6)] at h
        refine zv_ald hB zd303_52 rfl rfl rfl ?_
        refine zv_getr hB zd303_53 rfl ?_
        refine zv_ild hB zd303_56 rfl rfl ?_
        obtain ⟨c7, h⟩ := zi_if h
        refine zv_iald hB zd303_58 rfl rfl (zi_ix_ok c7).1 (zi_ix_ok c7).2 (fun _ _ => ?_)
        refine zv_ild hB zd303_59 rfl rfl ?_
        obtain ⟨r8, hr8, h⟩ := zi_bind h
        refine zv_cs hB (zv_emq (va2 := [.inl (g1 x4), .inl x5]) (F := []) (F' := []) (G := [g0, g1, g2]) (G' := [g0, g1, g2]) (ρ := []) (φ := []) (ψ := []) [] [none, none, none] zyw_M_goesTo zyw_M_sails_288 zye_M_sails_288 (by decide +kernel) (zt_M_goesTo hr8) trivial trivial rfl rfl rfl rfl rfl rfl rfl) zd303_61 zxt304 rfl (by decide) (by decide) rfl ?_
        refine zv_ist hB zd303_64 rfl rfl rfl ?_
        refine zv_ild hB zd303_66 rfl rfl ?_
        refine zv_con hB zd303_68 rfl ?_
        refine zv_ceq hB zd303_69 rfl (fun hc9 => ?_) (fun hc9 => ?_)
        · rw [if_pos hc9] at h
          refine zv_iincw hB zd303_121 rfl rfl ?_
          refine zv_goto hB zd303_124 rfl ?_
          refine zv_wk hB (L' := [.inr 0, .inr 1000, .inr 1, .inl x3, .inl x4, .inl (zi_w (x5 + 1)), .inr 1000]) (F' := []) ⟨fun _ => rfl, fun (h : zv_is (.inr 1000)) => (Nat.lt_irrefl 1000 h).elim, fun _ => rfl, fun _ => rfl, fun _ => rfl, fun _ => rfl, fun (h : zv_is (.inr 1000)) => (Nat.lt_irrefl 1000 h).elim, trivial⟩ trivial ?_
          exact ih _ _ _ _ _ q h hK
        · rw [if_neg hc9] at h
          refine zv_ald hB zd303_72 rfl rfl rfl ?_
          refine zv_ild hB zd303_73 rfl rfl ?_
          obtain ⟨r10, hr10, h⟩ := zi_bind h
          refine zv_cv hB (zv_emq (va2 := [.inr 0, .inl r8]) (F := []) (F' := []) (G := [g0, g1, g2]) (G' := [g0, g1, g2]) (ρ := [0, 3]) (φ := []) (ψ := [2]) [] [none, none, some 0] zyw_M_isLand zyw_M_sails_288 zye_M_sails_288 (by decide +kernel) (zt_M_isLand hr10) trivial ⟨rfl, trivial⟩ rfl rfl rfl rfl rfl rfl rfl) zd303_75 zxt212 rfl (by decide) (by decide) rfl ?_
          refine zv_zne hB zd303_78 rfl (fun hc11 => ?_) (fun hc11 => ?_)
          · rw [if_neg hc11] at h
            refine zv_iincw hB zd303_121 rfl rfl ?_
            refine zv_goto hB zd303_124 rfl ?_
            refine zv_wk hB (L' := [.inr 0, .inr 1000, .inr 1, .inl x3, .inl x4, .inl (zi_w (x5 + 1)), .inr 1000]) (F' := []) ⟨fun _ => rfl, fun (h : zv_is (.inr 1000)) => (Nat.lt_irrefl 1000 h).elim, fun _ => rfl, fun _ => rfl, fun _ => rfl, fun _ => rfl, fun (h : zv_is (.inr 1000)) => (Nat.lt_irrefl 1000 h).elim, trivial⟩ trivial ?_
            exact ih _ _ _ _ _ q h hK
          · rw [if_pos hc11] at h
            refine zv_ald hB zd303_81 rfl rfl rfl ?_
            refine zv_ild hB zd303_82 rfl rfl ?_
            obtain ⟨c12, h⟩ := zi_if h
            refine zv_iald hB zd303_84 rfl rfl (zi_ix_ok c12).1 (zi_ix_ok c12).2 (fun _ _ => ?_)
            refine zv_con (n := 1000000000) hB zd303_85 (by decide +kernel) ?_
            refine zv_cge hB zd303_88 rfl (fun hc13 => ?_) (fun hc13 => ?_)
            · rw [if_neg (Int.not_lt.mpr hc13)] at h
              refine zv_ald hB zd303_94 rfl rfl rfl ?_
              refine zv_ild hB zd303_95 rfl rfl ?_
              refine zv_ald hB zd303_97 rfl rfl rfl ?_
              refine zv_ald hB zd303_98 rfl rfl rfl ?_
              refine zv_getr hB zd303_99 rfl ?_
              refine zv_ild hB zd303_102 rfl rfl ?_
              refine zv_iald hB zd303_104 rfl rfl (zi_ix_ok c7).1 (zi_ix_ok c7).2 (fun _ _ => ?_)
              obtain ⟨c14, h⟩ := zi_if h
              refine zv_iald hB zd303_105 rfl rfl (zi_ix_ok c14).1 (zi_ix_ok c14).2 (fun _ _ => ?_)
              refine zv_con hB zd303_106 rfl ?_
              refine zv_addw hB zd303_107 ?_
              refine zv_iast hB zd303_108 rfl rfl (zi_ix_ok c12).1 (zi_ix_ok c12).2 ?_
              refine zv_ald hB zd303_109 rfl rfl rfl ?_
              refine zv_getr hB zd303_110 rfl ?_
              refine zv_ild hB zd303_113 rfl rfl ?_
              refine zv_ild hB zd303_114 rfl rfl ?_
              obtain ⟨c15, h⟩ := zi_if h
              refine zv_iast hB zd303_116 rfl rfl (zi_ix_ok c15).1 (zi_ix_ok c15).2 ?_
              refine zv_ild hB zd303_117 rfl rfl ?_
              refine zv_con hB zd303_118 rfl ?_
              refine zv_addw hB zd303_119 ?_
              refine zv_ist hB zd303_120 rfl rfl rfl ?_
              refine zv_iincw hB zd303_121 rfl rfl ?_
              refine zv_goto hB zd303_124 rfl ?_
              refine zv_wk hB (L' := [.inr 0, .inr 1000, .inr 1, .inl (zi_w (x3 + 1)), .inl x4, .inl (zi_w (x5 + 1)), .inr 1000]) (F' := []) ⟨fun _ => rfl, fun (h : zv_is (.inr 1000)) => (Nat.lt_irrefl 1000 h).elim, fun _ => rfl, fun _ => rfl, fun _ => rfl, fun _ => rfl, fun (h : zv_is (.inr 1000)) => (Nat.lt_irrefl 1000 h).elim, trivial⟩ trivial ?_
              exact ih _ _ _ _ _ q h hK
            · rw [if_pos hc13] at h
              refine zv_goto hB zd303_91 rfl ?_
              refine zv_iincw hB zd303_121 rfl rfl ?_
              refine zv_goto hB zd303_124 rfl ?_
              refine zv_wk hB (L' := [.inr 0, .inr 1000, .inr 1, .inl x3, .inl x4, .inl (zi_w (x5 + 1)), .inr 1000]) (F' := []) ⟨fun _ => rfl, fun (h : zv_is (.inr 1000)) => (Nat.lt_irrefl 1000 h).elim, fun _ => rfl, fun _ => rfl, fun _ => rfl, fun _ => rfl, fun (h : zv_is (.inr 1000)) => (Nat.lt_irrefl 1000 h).elim, trivial⟩ trivial ?_
              exact ih _ _ _ _ _ q h hK
  have l1 : ∀ (n : Nat) (x3 : Int) (x4 : Int) (g0 : (Int → Int)) (g1 : (Int → Int)) (q : (Int → Int) × (Int → Int)), zf_M_sails_288_l1 g2 n x3 x4 g0 g1 = some q → (good 133 [.inr 1000, .inr 1000, .inr 1000, .inr 1000, .inr 1000, .inr 1000, .inr 1000] [] [] [q.1, q.2, g2]) → good 37 [.inr 0, .inr 1000, .inr 1, .inl x3, .inl x4, .inr 1000, .inr 1000] [] [] [g0, g1, g2] := by
    intro n
    induction n with
    | zero => intro x3 x4 g0 g1 q h; exact absurd (show none = some q from h) (fun h => by cases h)
    | succ n ih =>
      intro x3 x4 g0 g1 q h hK
      replace h : zf_M_sails_288_l1_b g2 (zf_M_sails_288_l1 g2 n) x3 x4 g0 g1 = some q := h
      unfold zf_M_sails_288_l1_b at h
      refine zv_ild hB zd303_37 rfl rfl ?_
      refine zv_ild hB zd303_39 rfl rfl ?_
      refine zv_cge hB zd303_40 rfl (fun hc5 => ?_) (fun hc5 => ?_)
      · rw [if_neg (Int.not_lt.mpr hc5)] at h
        have hq := Option.some.inj h
        subst hq
        refine zv_wk hB (L' := [.inr 1000, .inr 1000, .inr 1000, .inr 1000, .inr 1000, .inr 1000, .inr 1000]) (F' := []) ⟨fun (h : zv_is (.inr 1000)) => (Nat.lt_irrefl 1000 h).elim, fun (h : zv_is (.inr 1000)) => (Nat.lt_irrefl 1000 h).elim, fun (h : zv_is (.inr 1000)) => (Nat.lt_irrefl 1000 h).elim, fun (h : zv_is (.inr 1000)) => (Nat.lt_irrefl 1000 h).elim, fun (h : zv_is (.inr 1000)) => (Nat.lt_irrefl 1000 h).elim, fun (h : zv_is (.inr 1000)) => (Nat.lt_irrefl 1000 h).elim, fun (h : zv_is (.inr 1000)) => (Nat.lt_irrefl 1000 h).elim, trivial⟩ trivial ?_
        exact hK
      · rw [if_pos hc5] at h
        refine zv_con hB zd303_43 rfl ?_
        refine zv_ist hB zd303_44 rfl rfl rfl ?_
        obtain ⟨q16, hq16, h⟩ := zi_bind h
        refine l2 _ _ _ _ _ _ q16 hq16 ?_
        show good 127 [.inr 0, .inr 1000, .inr 1, .inl q16.1, .inl x4, .inr 1000, .inr 1000] [] [] [q16.2.1, q16.2.2, g2]
        refine zv_iincw hB zd303_127 rfl rfl ?_
        refine zv_goto hB zd303_130 rfl ?_
        exact ih _ _ _ _ q h hK
  unfold zf_M_sails_288 at h
  refine zv_con hB zd303_0 rfl ?_
  refine zv_ist hB zd303_1 rfl rfl rfl ?_
  obtain ⟨q3, hq3, h⟩ := zi_bind h
  refine l0 _ _ _ _ _ q3 hq3 ?_
  show good 21 [.inr 0, .inl x1, .inr 1, .inr 1000, .inr 1000, .inr 1000, .inr 1000] [] [] [q3, g1, g2]
  refine zv_ald hB zd303_21 rfl rfl rfl ?_
  refine zv_ild hB zd303_22 rfl rfl ?_
  refine zv_con hB zd303_23 rfl ?_
  obtain ⟨c4, h⟩ := zi_if h
  refine zv_iast hB zd303_24 rfl rfl (zi_ix_ok c4).1 (zi_ix_ok c4).2 ?_
  refine zv_ald hB zd303_25 rfl rfl rfl ?_
  refine zv_getr hB zd303_26 rfl ?_
  refine zv_con hB zd303_29 rfl ?_
  refine zv_ild hB zd303_30 rfl rfl ?_
  refine zv_iast hB zd303_31 rfl rfl (by decide) (by decide) ?_
  refine zv_con hB zd303_32 rfl ?_
  refine zv_ist hB zd303_33 rfl rfl rfl ?_
  refine zv_con hB zd303_34 rfl ?_
  refine zv_ist hB zd303_35 rfl rfl rfl ?_
  obtain ⟨q17, hq17, h⟩ := zi_bind h
  refine zv_wk hB (L' := [.inr 0, .inr 1000, .inr 1, .inl 1, .inl 0, .inr 1000, .inr 1000]) (F' := []) ⟨fun _ => rfl, fun (h : zv_is (.inr 1000)) => (Nat.lt_irrefl 1000 h).elim, fun _ => rfl, fun _ => rfl, fun _ => rfl, fun (h : zv_is (.inr 1000)) => (Nat.lt_irrefl 1000 h).elim, fun (h : zv_is (.inr 1000)) => (Nat.lt_irrefl 1000 h).elim, trivial⟩ trivial ?_
  refine l1 _ _ _ _ _ q17 hq17 ?_
  show good 133 [.inr 1000, .inr 1000, .inr 1000, .inr 1000, .inr 1000, .inr 1000, .inr 1000] [] [] [q17.1, q17.2, g2]
  have hw := Option.some.inj h
  subst hw
  exact hvret _ _ _ _ zd303_133 trivial ⟨rfl, rfl, rfl⟩
/-! M_meeting (III)I -/
-- names: 0 StarTalesModel('arg', 0), 1 (0, 422)(0, 12, 0), 2 (0, 288)(0, 12, 52), 3 (0, 288)(0, 12, 54), 4 (0, 288)(0, 12, 53)
-- fields: ; arrays: g0 = 1, g1 = 2, g2 = 3, g3 = 4; out: [('ret', None), ('g', 1), ('g', 2), ('g', 3)]
abbrev zy_M_meeting : zNL := (5, [(0, 12)], [], [(0, 12, 0, 1), (0, 12, 52, 2), (0, 12, 54, 3), (0, 12, 53, 4)], [(1, 0, 422, 0), (2, 0, 288, 1), (3, 0, 288, 2), (4, 0, 288, 3)])
theorem zyw_M_meeting : zv_wf zy_M_meeting = true := by decide +kernel
theorem zye_M_meeting : zv_ek2 zy_M_meeting = true := by decide +kernel
def zf_M_meeting_l0_b (g1 : (Int → Int)) (g3 : (Int → Int)) (rec : Int → Int → Option (Int)) (x4 : Int) (x5 : Int) : Option (Int) := if x5 < 288 then (cond (zi_ix x5 288) ((zf_M_max (g1 x5) (g3 x5)).bind fun r13 => (cond (zi_ix x4 288) ((zf_M_max (g1 x4) (g3 x4)).bind fun r15 => (if r13 < r15 then (rec x5 (zi_w (x5 + 1))) else (rec x4 (zi_w (x5 + 1))))) none)) none) else (some x4)
def zf_M_meeting_l0 (g1 : (Int → Int)) (g3 : (Int → Int)) : Nat → Int → Int → Option (Int)
  | 0, _, _ => none
  | n + 1, x4, x5 => zf_M_meeting_l0_b g1 g3 (zf_M_meeting_l0 g1 g3 n) x4 x5
def zf_M_meeting (x1 : Int) (x2 : Int) (x3 : Int) (g0 : (Int → Int)) (g1 : (Int → Int)) (g2 : (Int → Int)) (g3 : (Int → Int)) : Option (Int × (Int → Int) × (Int → Int) × (Int → Int)) := (zf_M_isShip x1 g0).bind fun r1 => (if r1 = 0 then (some ((-1), g1, g2, g3)) else ((zf_M_isShip x2 g0).bind fun r3 => (if r3 = 0 then (some ((-1), g1, g2, g3)) else ((zf_M_in x3 0 1).bind fun r5 => (if r5 = 0 then (some ((-1), g1, g2, g3)) else (cond (zi_ix (zi_w (120 + x1)) 422) ((zf_M_sails_288 (g0 (zi_w (120 + x1))) g1 g2 g0).bind fun r8 => (cond (zi_ix (zi_w (120 + x2)) 422) ((zf_M_sails_288 (g0 (zi_w (120 + x2))) g3 r8.2 g0).bind fun r10 => ((zf_M_meeting_l0 r8.1 r10.1 zi_fu 0 0).bind fun q17 => (cond (zi_ix q17 288) ((zf_M_max (r8.1 q17) (r10.1 q17)).bind fun r19 => (if r19 < 1000000000 then (if x3 = 0 then (some (r19, r8.1, r10.2, r10.1)) else (some (q17, r8.1, r10.2, r10.1))) else (some ((-2), r8.1, r10.2, r10.1)))) none))) none)) none))))))
theorem zd302_0 : decode zxm302.2.1 0 = .ok (.aload_n 0, 1) := by decide +kernel
theorem zd302_1 : decode zxm302.2.1 1 = .ok (.iload_n 1, 1) := by decide +kernel
theorem zd302_2 : decode zxm302.2.1 2 = .ok (.invokevirtual 162, 3) := by decide +kernel
theorem zd302_5 : decode zxm302.2.1 5 = .ok (.ifCond .eq 20, 3) := by decide +kernel
theorem zd302_8 : decode zxm302.2.1 8 = .ok (.aload_n 0, 1) := by decide +kernel
theorem zd302_9 : decode zxm302.2.1 9 = .ok (.iload_n 2, 1) := by decide +kernel
theorem zd302_10 : decode zxm302.2.1 10 = .ok (.invokevirtual 162, 3) := by decide +kernel
theorem zd302_13 : decode zxm302.2.1 13 = .ok (.ifCond .eq 12, 3) := by decide +kernel
theorem zd302_16 : decode zxm302.2.1 16 = .ok (.iload_n 3, 1) := by decide +kernel
theorem zd302_17 : decode zxm302.2.1 17 = .ok (.iconst 0, 1) := by decide +kernel
theorem zd302_18 : decode zxm302.2.1 18 = .ok (.iconst 1, 1) := by decide +kernel
theorem zd302_19 : decode zxm302.2.1 19 = .ok (.invokestatic 150, 3) := by decide +kernel
theorem zd302_22 : decode zxm302.2.1 22 = .ok (.ifCond .ne 5, 3) := by decide +kernel
theorem zd302_25 : decode zxm302.2.1 25 = .ok (.iconst (-1), 1) := by decide +kernel
theorem zd302_26 : decode zxm302.2.1 26 = .ok (.ireturn, 1) := by decide +kernel
theorem zd302_27 : decode zxm302.2.1 27 = .ok (.aload_n 0, 1) := by decide +kernel
theorem zd302_28 : decode zxm302.2.1 28 = .ok (.aload_n 0, 1) := by decide +kernel
theorem zd302_29 : decode zxm302.2.1 29 = .ok (.getfield 7, 3) := by decide +kernel
theorem zd302_32 : decode zxm302.2.1 32 = .ok (.bipush 120, 2) := by decide +kernel
theorem zd302_34 : decode zxm302.2.1 34 = .ok (.iload_n 1, 1) := by decide +kernel
theorem zd302_35 : decode zxm302.2.1 35 = .ok (.iadd, 1) := by decide +kernel
theorem zd302_36 : decode zxm302.2.1 36 = .ok (.iaload, 1) := by decide +kernel
theorem zd302_37 : decode zxm302.2.1 37 = .ok (.aload_n 0, 1) := by decide +kernel
theorem zd302_38 : decode zxm302.2.1 38 = .ok (.getfield 113, 3) := by decide +kernel
theorem zd302_41 : decode zxm302.2.1 41 = .ok (.invokevirtual 443, 3) := by decide +kernel
theorem zd302_44 : decode zxm302.2.1 44 = .ok (.aload_n 0, 1) := by decide +kernel
theorem zd302_45 : decode zxm302.2.1 45 = .ok (.aload_n 0, 1) := by decide +kernel
theorem zd302_46 : decode zxm302.2.1 46 = .ok (.getfield 7, 3) := by decide +kernel
theorem zd302_49 : decode zxm302.2.1 49 = .ok (.bipush 120, 2) := by decide +kernel
theorem zd302_51 : decode zxm302.2.1 51 = .ok (.iload_n 2, 1) := by decide +kernel
theorem zd302_52 : decode zxm302.2.1 52 = .ok (.iadd, 1) := by decide +kernel
theorem zd302_53 : decode zxm302.2.1 53 = .ok (.iaload, 1) := by decide +kernel
theorem zd302_54 : decode zxm302.2.1 54 = .ok (.aload_n 0, 1) := by decide +kernel
theorem zd302_55 : decode zxm302.2.1 55 = .ok (.getfield 116, 3) := by decide +kernel
theorem zd302_58 : decode zxm302.2.1 58 = .ok (.invokevirtual 443, 3) := by decide +kernel
theorem zd302_61 : decode zxm302.2.1 61 = .ok (.iconst 0, 1) := by decide +kernel
theorem zd302_62 : decode zxm302.2.1 62 = .ok (.istore 4, 2) := by decide +kernel
theorem zd302_64 : decode zxm302.2.1 64 = .ok (.iconst 0, 1) := by decide +kernel
theorem zd302_65 : decode zxm302.2.1 65 = .ok (.istore 5, 2) := by decide +kernel
theorem zd302_67 : decode zxm302.2.1 67 = .ok (.iload 5, 2) := by decide +kernel
theorem zd302_69 : decode zxm302.2.1 69 = .ok (.sipush 288, 3) := by decide +kernel
theorem zd302_72 : decode zxm302.2.1 72 = .ok (.if_icmp .ge 50, 3) := by decide +kernel
theorem zd302_75 : decode zxm302.2.1 75 = .ok (.aload_n 0, 1) := by decide +kernel
theorem zd302_76 : decode zxm302.2.1 76 = .ok (.getfield 113, 3) := by decide +kernel
theorem zd302_79 : decode zxm302.2.1 79 = .ok (.iload 5, 2) := by decide +kernel
theorem zd302_81 : decode zxm302.2.1 81 = .ok (.iaload, 1) := by decide +kernel
theorem zd302_82 : decode zxm302.2.1 82 = .ok (.aload_n 0, 1) := by decide +kernel
theorem zd302_83 : decode zxm302.2.1 83 = .ok (.getfield 116, 3) := by decide +kernel
theorem zd302_86 : decode zxm302.2.1 86 = .ok (.iload 5, 2) := by decide +kernel
theorem zd302_88 : decode zxm302.2.1 88 = .ok (.iaload, 1) := by decide +kernel
theorem zd302_89 : decode zxm302.2.1 89 = .ok (.invokestatic 324, 3) := by decide +kernel
theorem zd302_92 : decode zxm302.2.1 92 = .ok (.aload_n 0, 1) := by decide +kernel
theorem zd302_93 : decode zxm302.2.1 93 = .ok (.getfield 113, 3) := by decide +kernel
theorem zd302_96 : decode zxm302.2.1 96 = .ok (.iload 4, 2) := by decide +kernel
theorem zd302_98 : decode zxm302.2.1 98 = .ok (.iaload, 1) := by decide +kernel
theorem zd302_99 : decode zxm302.2.1 99 = .ok (.aload_n 0, 1) := by decide +kernel
theorem zd302_100 : decode zxm302.2.1 100 = .ok (.getfield 116, 3) := by decide +kernel
theorem zd302_103 : decode zxm302.2.1 103 = .ok (.iload 4, 2) := by decide +kernel
theorem zd302_105 : decode zxm302.2.1 105 = .ok (.iaload, 1) := by decide +kernel
theorem zd302_106 : decode zxm302.2.1 106 = .ok (.invokestatic 324, 3) := by decide +kernel
theorem zd302_109 : decode zxm302.2.1 109 = .ok (.if_icmp .ge 7, 3) := by decide +kernel
theorem zd302_112 : decode zxm302.2.1 112 = .ok (.iload 5, 2) := by decide +kernel
theorem zd302_114 : decode zxm302.2.1 114 = .ok (.istore 4, 2) := by decide +kernel
theorem zd302_116 : decode zxm302.2.1 116 = .ok (.iinc 5 1, 3) := by decide +kernel
theorem zd302_119 : decode zxm302.2.1 119 = .ok (.goto (-52), 3) := by decide +kernel
theorem zd302_122 : decode zxm302.2.1 122 = .ok (.aload_n 0, 1) := by decide +kernel
theorem zd302_123 : decode zxm302.2.1 123 = .ok (.getfield 113, 3) := by decide +kernel
theorem zd302_126 : decode zxm302.2.1 126 = .ok (.iload 4, 2) := by decide +kernel
theorem zd302_128 : decode zxm302.2.1 128 = .ok (.iaload, 1) := by decide +kernel
theorem zd302_129 : decode zxm302.2.1 129 = .ok (.aload_n 0, 1) := by decide +kernel
theorem zd302_130 : decode zxm302.2.1 130 = .ok (.getfield 116, 3) := by decide +kernel
theorem zd302_133 : decode zxm302.2.1 133 = .ok (.iload 4, 2) := by decide +kernel
theorem zd302_135 : decode zxm302.2.1 135 = .ok (.iaload, 1) := by decide +kernel
theorem zd302_136 : decode zxm302.2.1 136 = .ok (.invokestatic 324, 3) := by decide +kernel
theorem zd302_139 : decode zxm302.2.1 139 = .ok (.istore 5, 2) := by decide +kernel
theorem zd302_141 : decode zxm302.2.1 141 = .ok (.iload 5, 2) := by decide +kernel
theorem zd302_143 : decode zxm302.2.1 143 = .ok (.ldc_w 391, 3) := by decide +kernel
theorem zd302_146 : decode zxm302.2.1 146 = .ok (.if_icmp .lt 8, 3) := by decide +kernel
theorem zd302_149 : decode zxm302.2.1 149 = .ok (.bipush (-2), 2) := by decide +kernel
theorem zd302_151 : decode zxm302.2.1 151 = .ok (.goto 14, 3) := by decide +kernel
theorem zd302_154 : decode zxm302.2.1 154 = .ok (.iload_n 3, 1) := by decide +kernel
theorem zd302_155 : decode zxm302.2.1 155 = .ok (.ifCond .ne 8, 3) := by decide +kernel
theorem zd302_158 : decode zxm302.2.1 158 = .ok (.iload 5, 2) := by decide +kernel
theorem zd302_160 : decode zxm302.2.1 160 = .ok (.goto 5, 3) := by decide +kernel
theorem zd302_163 : decode zxm302.2.1 163 = .ok (.iload 4, 2) := by decide +kernel
theorem zd302_165 : decode zxm302.2.1 165 = .ok (.ireturn, 1) := by decide +kernel
theorem zt_M_meeting {x1 : Int} {x2 : Int} {x3 : Int} {g0 : (Int → Int)} {g1 : (Int → Int)} {g2 : (Int → Int)} {g3 : (Int → Int)} {o : Int × (Int → Int) × (Int → Int) × (Int → Int)} (h : zf_M_meeting x1 x2 x3 g0 g1 g2 g3 = some o) : zv_Fn z_TB z_cl z_KX zy_M_meeting zxm302 (2, 120) [.inr 0, .inl x1, .inl x2, .inl x3] [] [g0, g1, g2, g3] (some o.1) [] [g0, o.2.1, o.2.2.1, o.2.2.2] := zv_meth (K := (z_KF13, z_KC13, z_KL13, z_KT13, [], [], [], none)) (FT := z_FT) (MT := z_MT) (n := 4) zxp302 (z_ks13 _ (fun _ h => List.mem_cons_of_mem _ h) _ _ _ _ (fun j r h _ => by cases h)) (fun _ _ => zs_KX_p) zyw_M_meeting (fun va F G h => by obtain ⟨rfl, _⟩ := h; rfl) (fun va F G h => by obtain ⟨rfl, _⟩ := h; rfl) rfl fun good va F G hB hret hvret hP => by
  obtain ⟨rfl, rfl, rfl⟩ := hP
  have l0 : ∀ (n : Nat) (x3 : Int) (x4 : Int) (x5 : Int) (g1 : (Int → Int)) (g2 : (Int → Int)) (g3 : (Int → Int)) (q : Int), zf_M_meeting_l0 g1 g3 n x4 x5 = some q → (good 122 [.inr 0, .inr 1000, .inr 1000, .inl x3, .inl q, .inr 1000] [] [] [g0, g1, g2, g3]) → good 67 [.inr 0, .inr 1000, .inr 1000, .inl x3, .inl x4, .inl x5] [] [] [g0, g1, g2, g3] := by
    intro n
    induction n with
    | zero => intro x3 x4 x5 g1 g2 g3 q h; exact absurd (show none = some q from h) (fun h => by cases h)
    | succ n ih =>
      intro x3 x4 x5 g1 g2 g3 q h hK
      replace h : zf_M_meeting_l0_b g1 g3 (zf_M_meeting_l0 g1 g3 n) x4 x5 = some q := h
      unfold zf_M_meeting_l0_b at h
      refine zv_ild hB zd302_67 rfl rfl ?_
      refine zv_con hB zd302_69 rfl ?_
      refine zv_cge hB zd302_72 rfl (fun hc11 => ?_) (fun hc11 => ?_)
      · rw [if_neg (Int.not_lt.mpr hc11)] at h
        have hq := Option.some.inj h
        subst hq
        refine zv_wk hB (L' := [.inr 0, .inr 1000, .inr 1000, .inl x3, .inl x4, .inr 1000]) (F' := []) ⟨fun _ => rfl, fun (h : zv_is (.inr 1000)) => (Nat.lt_irrefl 1000 h).elim, fun (h : zv_is (.inr 1000)) => (Nat.lt_irrefl 1000 h).elim, fun _ => rfl, fun _ => rfl, fun (h : zv_is (.inr 1000)) => (Nat.lt_irrefl 1000 h).elim, trivial⟩ trivial ?_
        exact hK
      · rw [if_pos hc11] at h
        refine zv_ald hB zd302_75 rfl rfl rfl ?_
        refine zv_getr hB zd302_76 rfl ?_
        refine zv_ild hB zd302_79 rfl rfl ?_
        obtain ⟨c12, h⟩ := zi_if h
        refine zv_iald hB zd302_81 rfl rfl (zi_ix_ok c12).1 (zi_ix_ok c12).2 (fun _ _ => ?_)
        refine zv_ald hB zd302_82 rfl rfl rfl ?_
        refine zv_getr hB zd302_83 rfl ?_
        refine zv_ild hB zd302_86 rfl rfl ?_
        refine zv_iald hB zd302_88 rfl rfl (zi_ix_ok c12).1 (zi_ix_ok c12).2 (fun _ _ => ?_)
        obtain ⟨r13, hr13, h⟩ := zi_bind h
        refine zv_cs hB (zv_emq (va2 := [.inl (g1 x5), .inl (g3 x5)]) (F := []) (F' := []) (G := [g0, g1, g2, g3]) (G' := [g0, g1, g2, g3]) (ρ := []) (φ := []) (ψ := []) [] [none, none, none, none] zyw_M_max zyw_M_meeting zye_M_meeting (by decide +kernel) (zt_M_max hr13) trivial trivial rfl rfl rfl rfl rfl rfl rfl) zd302_89 zxt258 rfl (by decide) (by decide) rfl ?_
        refine zv_ald hB zd302_92 rfl rfl rfl ?_
        refine zv_getr hB zd302_93 rfl ?_
        refine zv_ild hB zd302_96 rfl rfl ?_
        obtain ⟨c14, h⟩ := zi_if h
        refine zv_iald hB zd302_98 rfl rfl (zi_ix_ok c14).1 (zi_ix_ok c14).2 (fun _ _ => ?_)
        refine zv_ald hB zd302_99 rfl rfl rfl ?_
        refine zv_getr hB zd302_100 rfl ?_
        refine zv_ild hB zd302_103 rfl rfl ?_
        refine zv_iald hB zd302_105 rfl rfl (zi_ix_ok c14).1 (zi_ix_ok c14).2 (fun _ _ => ?_)
        obtain ⟨r15, hr15, h⟩ := zi_bind h
        refine zv_cs hB (zv_emq (va2 := [.inl (g1 x4), .inl (g3 x4)]) (F := []) (F' := []) (G := [g0, g1, g2, g3]) (G' := [g0, g1, g2, g3]) (ρ := []) (φ := []) (ψ := []) [] [none, none, none, none] zyw_M_max zyw_M_meeting zye_M_meeting (by decide +kernel) (zt_M_max hr15) trivial trivial rfl rfl rfl rfl rfl rfl rfl) zd302_106 zxt258 rfl (by decide) (by decide) rfl ?_
        refine zv_cge hB zd302_109 rfl (fun hc16 => ?_) (fun hc16 => ?_)
        · rw [if_neg (Int.not_lt.mpr hc16)] at h
          refine zv_iincw hB zd302_116 rfl rfl ?_
          refine zv_goto hB zd302_119 rfl ?_
          exact ih _ _ _ _ _ _ q h hK
        · rw [if_pos hc16] at h
          refine zv_ild hB zd302_112 rfl rfl ?_
          refine zv_ist hB zd302_114 rfl rfl rfl ?_
          refine zv_iincw hB zd302_116 rfl rfl ?_
          refine zv_goto hB zd302_119 rfl ?_
          exact ih _ _ _ _ _ _ q h hK
  unfold zf_M_meeting at h
  refine zv_ald hB zd302_0 rfl rfl rfl ?_
  refine zv_ild hB zd302_1 rfl rfl ?_
  obtain ⟨r1, hr1, h⟩ := zi_bind h
  refine zv_cv hB (zv_emq (va2 := [.inr 0, .inl x1]) (F := []) (F' := []) (G := [g0, g1, g2, g3]) (G' := [g0, g1, g2, g3]) (ρ := [0, 1]) (φ := []) (ψ := [0]) [] [some 0, none, none, none] zyw_M_isShip zyw_M_meeting zye_M_meeting (by decide +kernel) (zt_M_isShip hr1) trivial ⟨rfl, trivial⟩ rfl rfl rfl rfl rfl rfl rfl) zd302_2 zxt210 rfl (by decide) (by decide) rfl ?_
  refine zv_zeq hB zd302_5 rfl (fun hc2 => ?_) (fun hc2 => ?_)
  · rw [if_pos hc2] at h
    refine zv_con hB zd302_25 rfl ?_
    have hw := Option.some.inj h
    subst hw
    exact hret _ _ _ _ _ zd302_26 (by trivial) ⟨rfl, rfl, rfl⟩
  · rw [if_neg hc2] at h
    refine zv_ald hB zd302_8 rfl rfl rfl ?_
    refine zv_ild hB zd302_9 rfl rfl ?_
    obtain ⟨r3, hr3, h⟩ := zi_bind h
    refine zv_cv hB (zv_emq (va2 := [.inr 0, .inl x2]) (F := []) (F' := []) (G := [g0, g1, g2, g3]) (G' := [g0, g1, g2, g3]) (ρ := [0, 1]) (φ := []) (ψ := [0]) [] [some 0, none, none, none] zyw_M_isShip zyw_M_meeting zye_M_meeting (by decide +kernel) (zt_M_isShip hr3) trivial ⟨rfl, trivial⟩ rfl rfl rfl rfl rfl rfl rfl) zd302_10 zxt210 rfl (by decide) (by decide) rfl ?_
    refine zv_zeq hB zd302_13 rfl (fun hc4 => ?_) (fun hc4 => ?_)
    · rw [if_pos hc4] at h
      refine zv_con hB zd302_25 rfl ?_
      have hw := Option.some.inj h
      subst hw
      exact hret _ _ _ _ _ zd302_26 (by trivial) ⟨rfl, rfl, rfl⟩
    · rw [if_neg hc4] at h
      refine zv_ild hB zd302_16 rfl rfl ?_
      refine zv_con hB zd302_17 rfl ?_
      refine zv_con hB zd302_18 rfl ?_
      obtain ⟨r5, hr5, h⟩ := zi_bind h
      refine zv_cs hB (zv_emq (va2 := [.inl x3, .inl 0, .inl 1]) (F := []) (F' := []) (G := [g0, g1, g2, g3]) (G' := [g0, g1, g2, g3]) (ρ := []) (φ := []) (ψ := []) [] [none, none, none, none] zyw_M_in zyw_M_meeting zye_M_meeting (by decide +kernel) (zt_M_in hr5) trivial trivial rfl rfl rfl rfl rfl rfl rfl) zd302_19 zxt200 rfl (by decide) (by decide) rfl ?_
      refine zv_zne hB zd302_22 rfl (fun hc6 => ?_) (fun hc6 => ?_)
      · rw [if_neg hc6] at h
        refine zv_ald hB zd302_27 rfl rfl rfl ?_
        refine zv_ald hB zd302_28 rfl rfl rfl ?_
        refine zv_getr hB zd302_29 rfl ?_
        refine zv_con hB zd302_32 rfl ?_
        refine zv_ild hB zd302_34 rfl rfl ?_
        refine zv_addw hB zd302_35 ?_
        obtain ⟨c7, h⟩ := zi_if h
        refine zv_iald hB zd302_36 rfl rfl (zi_ix_ok c7).1 (zi_ix_ok c7).2 (fun _ _ => ?_)
        refine zv_ald hB zd302_37 rfl rfl rfl ?_
        refine zv_getr hB zd302_38 rfl ?_
        obtain ⟨r8, hr8, h⟩ := zi_bind h
        refine zv_cv hB (zv_emq (va2 := [.inr 0, .inl (g0 (zi_w (120 + x1))), .inr 2]) (F := []) (F' := []) (G := [g0, g1, g2, g3]) (G' := [g0, r8.1, r8.2, g3]) (ρ := [0, 2, 3, 1]) (φ := []) (ψ := [1, 2, 0]) [] [some 2, some 0, some 1, none] zyw_M_sails_288 zyw_M_meeting zye_M_meeting (by decide +kernel) (zt_M_sails_288 hr8) trivial ⟨rfl, rfl, rfl, trivial⟩ rfl rfl rfl rfl rfl rfl rfl) zd302_41 zxt303 rfl (by decide) (by decide) rfl ?_
        refine zv_ald hB zd302_44 rfl rfl rfl ?_
        refine zv_ald hB zd302_45 rfl rfl rfl ?_
        refine zv_getr hB zd302_46 rfl ?_
        refine zv_con hB zd302_49 rfl ?_
        refine zv_ild hB zd302_51 rfl rfl ?_
        refine zv_addw hB zd302_52 ?_
        obtain ⟨c9, h⟩ := zi_if h
        refine zv_iald hB zd302_53 rfl rfl (zi_ix_ok c9).1 (zi_ix_ok c9).2 (fun _ _ => ?_)
        refine zv_ald hB zd302_54 rfl rfl rfl ?_
        refine zv_getr hB zd302_55 rfl ?_
        obtain ⟨r10, hr10, h⟩ := zi_bind h
        refine zv_cv hB (zv_emq (va2 := [.inr 0, .inl (g0 (zi_w (120 + x2))), .inr 4]) (F := []) (F' := []) (G := [g0, r8.1, r8.2, g3]) (G' := [g0, r8.1, r10.2, r10.1]) (ρ := [0, 4, 3, 1]) (φ := []) (ψ := [3, 2, 0]) [] [some 2, none, some 1, some 0] zyw_M_sails_288 zyw_M_meeting zye_M_meeting (by decide +kernel) (zt_M_sails_288 hr10) trivial ⟨rfl, rfl, rfl, trivial⟩ rfl rfl rfl rfl rfl rfl rfl) zd302_58 zxt303 rfl (by decide) (by decide) rfl ?_
        refine zv_con hB zd302_61 rfl ?_
        refine zv_ist hB zd302_62 rfl rfl rfl ?_
        refine zv_con hB zd302_64 rfl ?_
        refine zv_ist hB zd302_65 rfl rfl rfl ?_
        obtain ⟨q17, hq17, h⟩ := zi_bind h
        refine zv_wk hB (L' := [.inr 0, .inr 1000, .inr 1000, .inl x3, .inl 0, .inl 0]) (F' := []) ⟨fun _ => rfl, fun (h : zv_is (.inr 1000)) => (Nat.lt_irrefl 1000 h).elim, fun (h : zv_is (.inr 1000)) => (Nat.lt_irrefl 1000 h).elim, fun _ => rfl, fun _ => rfl, fun _ => rfl, trivial⟩ trivial ?_
        refine l0 _ _ _ _ _ _ _ q17 hq17 ?_
        show good 122 [.inr 0, .inr 1000, .inr 1000, .inl x3, .inl q17, .inr 1000] [] [] [g0, r8.1, r10.2, r10.1]
        refine zv_ald hB zd302_122 rfl rfl rfl ?_
        refine zv_getr hB zd302_123 rfl ?_
        refine zv_ild hB zd302_126 rfl rfl ?_
        obtain ⟨c18, h⟩ := zi_if h
        refine zv_iald hB zd302_128 rfl rfl (zi_ix_ok c18).1 (zi_ix_ok c18).2 (fun _ _ => ?_)
        refine zv_ald hB zd302_129 rfl rfl rfl ?_
        refine zv_getr hB zd302_130 rfl ?_
        refine zv_ild hB zd302_133 rfl rfl ?_
        refine zv_iald hB zd302_135 rfl rfl (zi_ix_ok c18).1 (zi_ix_ok c18).2 (fun _ _ => ?_)
        obtain ⟨r19, hr19, h⟩ := zi_bind h
        refine zv_cs hB (zv_emq (va2 := [.inl (r8.1 q17), .inl (r10.1 q17)]) (F := []) (F' := []) (G := [g0, r8.1, r10.2, r10.1]) (G' := [g0, r8.1, r10.2, r10.1]) (ρ := []) (φ := []) (ψ := []) [] [none, none, none, none] zyw_M_max zyw_M_meeting zye_M_meeting (by decide +kernel) (zt_M_max hr19) trivial trivial rfl rfl rfl rfl rfl rfl rfl) zd302_136 zxt258 rfl (by decide) (by decide) rfl ?_
        refine zv_ist hB zd302_139 rfl rfl rfl ?_
        refine zv_ild hB zd302_141 rfl rfl ?_
        refine zv_con (n := 1000000000) hB zd302_143 (by decide +kernel) ?_
        refine zv_clt hB zd302_146 rfl (fun hc20 => ?_) (fun hc20 => ?_)
        · rw [if_pos hc20] at h
          refine zv_ild hB zd302_154 rfl rfl ?_
          refine zv_zne hB zd302_155 rfl (fun hc21 => ?_) (fun hc21 => ?_)
          · rw [if_neg hc21] at h
            refine zv_ild hB zd302_163 rfl rfl ?_
            have hw := Option.some.inj h
            subst hw
            exact hret _ _ _ _ _ zd302_165 (by trivial) ⟨rfl, rfl, rfl⟩
          · rw [if_pos hc21] at h
            refine zv_ild hB zd302_158 rfl rfl ?_
            refine zv_goto hB zd302_160 rfl ?_
            have hw := Option.some.inj h
            subst hw
            exact hret _ _ _ _ _ zd302_165 (by trivial) ⟨rfl, rfl, rfl⟩
        · rw [if_neg (Int.not_lt.mpr hc20)] at h
          refine zv_con hB zd302_149 rfl ?_
          refine zv_goto hB zd302_151 rfl ?_
          have hw := Option.some.inj h
          subst hw
          exact hret _ _ _ _ _ zd302_165 (by trivial) ⟨rfl, rfl, rfl⟩
      · rw [if_pos hc6] at h
        refine zv_con hB zd302_25 rfl ?_
        have hw := Option.some.inj h
        subst hw
        exact hret _ _ _ _ _ zd302_26 (by trivial) ⟨rfl, rfl, rfl⟩
/-! M_comesBy (IIII)I -/
-- names: 0 StarTalesModel('arg', 0), 1 (0, 422)(0, 12, 0), 2 (0, 14)(0, 12, 21), 3 (0, 13)(0, 12, 26), 4 (0, 14)(0, 12, 23), 5 (0, 14)(0, 12, 24), 6 (0, 220)(0, 12, 20), 7 (0, 220)(0, 12, 25), 8 (0, 14)(0, 12, 22)
-- fields: f0 = 0.clauses_; arrays: g0 = 1, g1 = 2, g2 = 3, g3 = 4, g4 = 5, g5 = 6, g6 = 7, g7 = 8; out: [('ret', None), ('g', 0), ('g', 2), ('g', 6)]
abbrev zy_M_comesBy : zNL := (9, [(0, 12)], [(0, 12, 13, 0)], [(0, 12, 0, 1), (0, 12, 21, 2), (0, 12, 26, 3), (0, 12, 23, 4), (0, 12, 24, 5), (0, 12, 20, 6), (0, 12, 25, 7), (0, 12, 22, 8)], [(1, 0, 422, 0), (2, 0, 14, 1), (3, 0, 13, 2), (4, 0, 14, 3), (5, 0, 14, 4), (6, 0, 220, 5), (7, 0, 220, 6), (8, 0, 14, 7)])
theorem zyw_M_comesBy : zv_wf zy_M_comesBy = true := by decide +kernel
theorem zye_M_comesBy : zv_ek2 zy_M_comesBy = true := by decide +kernel
def zf_M_comesBy_l0_b (x1 : Int) (x2 : Int) (x3 : Int) (x4 : Int) (f0 : Int) (g1 : (Int → Int)) (g3 : (Int → Int)) (g4 : (Int → Int)) (g5 : (Int → Int)) (g7 : (Int → Int)) (rec : Int → (Int → Int) → (Int → Int) → (Int → Int) → Option ((((Int → Int) × (Int → Int) × (Int → Int)) ⊕ (Int × (Int → Int) × (Int → Int) × (Int → Int))))) (x5 : Int) (g0 : (Int → Int)) (g2 : (Int → Int)) (g6 : (Int → Int)) : Option ((((Int → Int) × (Int → Int) × (Int → Int)) ⊕ (Int × (Int → Int) × (Int → Int) × (Int → Int)))) := if x4 < x5 then (some (.inl (g0, g2, g6))) else (cond (zi_ix (zi_w (120 + x1)) 422) (if (g0 (zi_w (120 + x1))) = x3 then (some (.inr (x5, g0, g2, g6))) else (if x5 < x4 then ((zf_M_steers x1 x2 0 f0 g0 g1 g2 g3 g4 g5 g6 g7).bind fun r5 => (rec (zi_w (x5 + 1)) r5.1 r5.2.1 r5.2.2)) else (rec (zi_w (x5 + 1)) g0 g2 g6))) none)
def zf_M_comesBy_l0 (x1 : Int) (x2 : Int) (x3 : Int) (x4 : Int) (f0 : Int) (g1 : (Int → Int)) (g3 : (Int → Int)) (g4 : (Int → Int)) (g5 : (Int → Int)) (g7 : (Int → Int)) : Nat → Int → (Int → Int) → (Int → Int) → (Int → Int) → Option ((((Int → Int) × (Int → Int) × (Int → Int)) ⊕ (Int × (Int → Int) × (Int → Int) × (Int → Int))))
  | 0, _, _, _, _ => none
  | n + 1, x5, g0, g2, g6 => zf_M_comesBy_l0_b x1 x2 x3 x4 f0 g1 g3 g4 g5 g7 (zf_M_comesBy_l0 x1 x2 x3 x4 f0 g1 g3 g4 g5 g7 n) x5 g0 g2 g6
def zf_M_comesBy (x1 : Int) (x2 : Int) (x3 : Int) (x4 : Int) (f0 : Int) (g0 : (Int → Int)) (g1 : (Int → Int)) (g2 : (Int → Int)) (g3 : (Int → Int)) (g4 : (Int → Int)) (g5 : (Int → Int)) (g6 : (Int → Int)) (g7 : (Int → Int)) : Option (Int × (Int → Int) × (Int → Int) × (Int → Int)) := (zf_M_comesBy_l0 x1 x2 x3 x4 f0 g1 g3 g4 g5 g7 zi_fu 0 g0 g2 g6).bind fun q6 => Sum.elim (fun e7 => (some ((-1), e7.1, e7.2.1, e7.2.2))) (fun w8 => some w8) q6
theorem zd306_0 : decode zxm306.2.1 0 = .ok (.iconst 0, 1) := by decide +kernel
theorem zd306_1 : decode zxm306.2.1 1 = .ok (.istore 5, 2) := by decide +kernel
theorem zd306_3 : decode zxm306.2.1 3 = .ok (.iload 5, 2) := by decide +kernel
theorem zd306_5 : decode zxm306.2.1 5 = .ok (.iload 4, 2) := by decide +kernel
theorem zd306_7 : decode zxm306.2.1 7 = .ok (.if_icmp .gt 39, 3) := by decide +kernel
theorem zd306_10 : decode zxm306.2.1 10 = .ok (.aload_n 0, 1) := by decide +kernel
theorem zd306_11 : decode zxm306.2.1 11 = .ok (.getfield 7, 3) := by decide +kernel
theorem zd306_14 : decode zxm306.2.1 14 = .ok (.bipush 120, 2) := by decide +kernel
theorem zd306_16 : decode zxm306.2.1 16 = .ok (.iload_n 1, 1) := by decide +kernel
theorem zd306_17 : decode zxm306.2.1 17 = .ok (.iadd, 1) := by decide +kernel
theorem zd306_18 : decode zxm306.2.1 18 = .ok (.iaload, 1) := by decide +kernel
theorem zd306_19 : decode zxm306.2.1 19 = .ok (.iload_n 3, 1) := by decide +kernel
theorem zd306_20 : decode zxm306.2.1 20 = .ok (.if_icmp .ne 6, 3) := by decide +kernel
theorem zd306_23 : decode zxm306.2.1 23 = .ok (.iload 5, 2) := by decide +kernel
theorem zd306_25 : decode zxm306.2.1 25 = .ok (.ireturn, 1) := by decide +kernel
theorem zd306_26 : decode zxm306.2.1 26 = .ok (.iload 5, 2) := by decide +kernel
theorem zd306_28 : decode zxm306.2.1 28 = .ok (.iload 4, 2) := by decide +kernel
theorem zd306_30 : decode zxm306.2.1 30 = .ok (.if_icmp .ge 10, 3) := by decide +kernel
theorem zd306_33 : decode zxm306.2.1 33 = .ok (.aload_n 0, 1) := by decide +kernel
theorem zd306_34 : decode zxm306.2.1 34 = .ok (.iload_n 1, 1) := by decide +kernel
theorem zd306_35 : decode zxm306.2.1 35 = .ok (.iload_n 2, 1) := by decide +kernel
theorem zd306_36 : decode zxm306.2.1 36 = .ok (.iconst 0, 1) := by decide +kernel
theorem zd306_37 : decode zxm306.2.1 37 = .ok (.invokevirtual 430, 3) := by decide +kernel
theorem zd306_40 : decode zxm306.2.1 40 = .ok (.iinc 5 1, 3) := by decide +kernel
theorem zd306_43 : decode zxm306.2.1 43 = .ok (.goto (-40), 3) := by decide +kernel
theorem zd306_46 : decode zxm306.2.1 46 = .ok (.iconst (-1), 1) := by decide +kernel
theorem zd306_47 : decode zxm306.2.1 47 = .ok (.ireturn, 1) := by decide +kernel
theorem zt_M_comesBy {x1 : Int} {x2 : Int} {x3 : Int} {x4 : Int} {f0 : Int} {g0 : (Int → Int)} {g1 : (Int → Int)} {g2 : (Int → Int)} {g3 : (Int → Int)} {g4 : (Int → Int)} {g5 : (Int → Int)} {g6 : (Int → Int)} {g7 : (Int → Int)} {o : Int × (Int → Int) × (Int → Int) × (Int → Int)} (h : zf_M_comesBy x1 x2 x3 x4 f0 g0 g1 g2 g3 g4 g5 g6 g7 = some o) : zv_Fn z_TB z_cl z_KX zy_M_comesBy zxm306 (6, 360) [.inr 0, .inl x1, .inl x2, .inl x3, .inl x4] [.inl f0] [g0, g1, g2, g3, g4, g5, g6, g7] (some o.1) [.inl f0] [o.2.1, g1, o.2.2.1, g3, g4, g5, o.2.2.2, g7] := zv_meth (K := (z_KF13, z_KC13, z_KL13, z_KT13, [], [], [], none)) (FT := z_FT) (MT := z_MT) (n := 5) zxp306 (z_ks13 _ (fun _ h => List.mem_cons_of_mem _ h) _ _ _ _ (fun j r h _ => by cases h)) (fun _ _ => zs_KX_p) zyw_M_comesBy (fun va F G h => by obtain ⟨rfl, _⟩ := h; rfl) (fun va F G h => by obtain ⟨rfl, _⟩ := h; rfl) rfl fun good va F G hB hret hvret hP => by
  obtain ⟨rfl, rfl, rfl⟩ := hP
  have l0 : ∀ (n : Nat) (x1 : Int) (x2 : Int) (x3 : Int) (x4 : Int) (x5 : Int) (g0 : (Int → Int)) (g2 : (Int → Int)) (g6 : (Int → Int)) (q : (((Int → Int) × (Int → Int) × (Int → Int)) ⊕ (Int × (Int → Int) × (Int → Int) × (Int → Int)))), zf_M_comesBy_l0 x1 x2 x3 x4 f0 g1 g3 g4 g5 g7 n x5 g0 g2 g6 = some q → (Sum.elim (fun e : (Int → Int) × (Int → Int) × (Int → Int) => good 46 [.inr 1000, .inr 1000, .inr 1000, .inr 1000, .inr 1000, .inr 1000] [] [.inl f0] [e.1, g1, e.2.1, g3, g4, g5, e.2.2, g7]) (fun w : Int × (Int → Int) × (Int → Int) × (Int → Int) => w = o) q) → good 3 [.inr 0, .inl x1, .inl x2, .inl x3, .inl x4, .inl x5] [] [.inl f0] [g0, g1, g2, g3, g4, g5, g6, g7] := by
    intro n
    induction n with
    | zero => intro x1 x2 x3 x4 x5 g0 g2 g6 q h; exact absurd (show none = some q from h) (fun h => by cases h)
    | succ n ih =>
      intro x1 x2 x3 x4 x5 g0 g2 g6 q h hK
      replace h : zf_M_comesBy_l0_b x1 x2 x3 x4 f0 g1 g3 g4 g5 g7 (zf_M_comesBy_l0 x1 x2 x3 x4 f0 g1 g3 g4 g5 g7 n) x5 g0 g2 g6 = some q := h
      unfold zf_M_comesBy_l0_b at h
      refine zv_ild hB zd306_3 rfl rfl ?_
      refine zv_ild hB zd306_5 rfl rfl ?_
      refine zv_cgt hB zd306_7 rfl (fun hc1 => ?_) (fun hc1 => ?_)
      · rw [if_pos hc1] at h
        have hq := Option.some.inj h
        subst hq
        refine zv_wk hB (L' := [.inr 1000, .inr 1000, .inr 1000, .inr 1000, .inr 1000, .inr 1000]) (F' := [.inl f0]) ⟨fun (h : zv_is (.inr 1000)) => (Nat.lt_irrefl 1000 h).elim, fun (h : zv_is (.inr 1000)) => (Nat.lt_irrefl 1000 h).elim, fun (h : zv_is (.inr 1000)) => (Nat.lt_irrefl 1000 h).elim, fun (h : zv_is (.inr 1000)) => (Nat.lt_irrefl 1000 h).elim, fun (h : zv_is (.inr 1000)) => (Nat.lt_irrefl 1000 h).elim, fun (h : zv_is (.inr 1000)) => (Nat.lt_irrefl 1000 h).elim, trivial⟩ ⟨fun _ => rfl, trivial⟩ ?_
        exact hK
      · rw [if_neg (Int.not_lt.mpr hc1)] at h
        refine zv_ald hB zd306_10 rfl rfl rfl ?_
        refine zv_getr hB zd306_11 rfl ?_
        refine zv_con hB zd306_14 rfl ?_
        refine zv_ild hB zd306_16 rfl rfl ?_
        refine zv_addw hB zd306_17 ?_
        obtain ⟨c2, h⟩ := zi_if h
        refine zv_iald hB zd306_18 rfl rfl (zi_ix_ok c2).1 (zi_ix_ok c2).2 (fun _ _ => ?_)
        refine zv_ild hB zd306_19 rfl rfl ?_
        refine zv_cne hB zd306_20 rfl (fun hc3 => ?_) (fun hc3 => ?_)
        · rw [if_neg hc3] at h
          refine zv_ild hB zd306_26 rfl rfl ?_
          refine zv_ild hB zd306_28 rfl rfl ?_
          refine zv_cge hB zd306_30 rfl (fun hc4 => ?_) (fun hc4 => ?_)
          · rw [if_neg (Int.not_lt.mpr hc4)] at h
            refine zv_iincw hB zd306_40 rfl rfl ?_
            refine zv_goto hB zd306_43 rfl ?_
            exact ih _ _ _ _ _ _ _ _ q h hK
          · rw [if_pos hc4] at h
            refine zv_ald hB zd306_33 rfl rfl rfl ?_
            refine zv_ild hB zd306_34 rfl rfl ?_
            refine zv_ild hB zd306_35 rfl rfl ?_
            refine zv_con hB zd306_36 rfl ?_
            obtain ⟨r5, hr5, h⟩ := zi_bind h
            refine zv_cv hB (zv_emq (va2 := [.inr 0, .inl x1, .inl x2, .inl 0]) (F := [.inl f0]) (F' := [.inl f0]) (G := [g0, g1, g2, g3, g4, g5, g6, g7]) (G' := [r5.1, g1, r5.2.1, g3, g4, g5, r5.2.2, g7]) (ρ := [0, 1, 2, 3, 4, 5, 6, 7, 8]) (φ := [0]) (ψ := [0, 1, 2, 3, 4, 5, 6, 7]) [some 0] [some 0, some 1, some 2, some 3, some 4, some 5, some 6, some 7] zyw_M_steers zyw_M_comesBy zye_M_comesBy (by decide +kernel) (zt_M_steers hr5) ⟨⟨_, rfl, fun _ => rfl⟩, trivial⟩ ⟨rfl, rfl, rfl, rfl, rfl, rfl, rfl, rfl, trivial⟩ rfl rfl rfl rfl rfl rfl rfl) zd306_37 zxt290 rfl (by decide) (by decide) rfl ?_
            refine zv_iincw hB zd306_40 rfl rfl ?_
            refine zv_goto hB zd306_43 rfl ?_
            exact ih _ _ _ _ _ _ _ _ q h hK
        · rw [if_pos hc3] at h
          refine zv_ild hB zd306_23 rfl rfl ?_
          have hw : (x5, g0, g2, g6) = o := zi_rk (Option.some.inj h) hK
          subst hw
          exact hret _ _ _ _ _ zd306_25 (by trivial) ⟨rfl, rfl, rfl⟩
  unfold zf_M_comesBy at h
  refine zv_con hB zd306_0 rfl ?_
  refine zv_ist hB zd306_1 rfl rfl rfl ?_
  obtain ⟨q6, hq6, h⟩ := zi_bind h
  refine l0 _ _ _ _ _ _ _ _ _ q6 hq6 ?_
  rcases q6 with e7 | w8
  · replace h := zi_sl h
    show good 46 [.inr 1000, .inr 1000, .inr 1000, .inr 1000, .inr 1000, .inr 1000] [] [.inl f0] [e7.1, g1, e7.2.1, g3, g4, g5, e7.2.2, g7]
    refine zv_con hB zd306_46 rfl ?_
    have hw := Option.some.inj h
    subst hw
    exact hret _ _ _ _ _ zd306_47 (by trivial) ⟨rfl, rfl, rfl⟩
  · exact Option.some.inj h
end
section
/-! Methods as functions, and that they do what these do. -/
/-! M_fastest (IIIII)I -/
-- names: 0 StarTalesModel('arg', 0), 1 (0, 422)(0, 12, 0), 2 (0, 422)(0, 12, 1), 3 (0, 14)(0, 12, 21), 4 (0, 13)(0, 12, 26), 5 (0, 14)(0, 12, 23), 6 (0, 14)(0, 12, 24), 7 (0, 220)(0, 12, 20), 8 (0, 220)(0, 12, 25), 9 (0, 14)(0, 12, 22)
-- fields: f0 = 0.clauses_; arrays: g0 = 1, g1 = 2, g2 = 3, g3 = 4, g4 = 5, g5 = 6, g6 = 7, g7 = 8, g8 = 9; out: [('ret', None), ('g', 0), ('g', 1), ('g', 3), ('g', 7)]
abbrev zy_M_fastest : zNL := (10, [(0, 12)], [(0, 12, 13, 0)], [(0, 12, 0, 1), (0, 12, 1, 2), (0, 12, 21, 3), (0, 12, 26, 4), (0, 12, 23, 5), (0, 12, 24, 6), (0, 12, 20, 7), (0, 12, 25, 8), (0, 12, 22, 9)], [(1, 0, 422, 0), (2, 0, 422, 1), (3, 0, 14, 2), (4, 0, 13, 3), (5, 0, 14, 4), (6, 0, 14, 5), (7, 0, 220, 6), (8, 0, 220, 7), (9, 0, 14, 8)])
theorem zyw_M_fastest : zv_wf zy_M_fastest = true := by decide +kernel
theorem zye_M_fastest : zv_ek2 zy_M_fastest = true := by decide +kernel
def zf_M_fastest_l0_b (x1 : Int) (x4 : Int) (x6 : Int) (f0 : Int) (g1 : (Int → Int)) (g2 : (Int → Int)) (g4 : (Int → Int)) (g5 : (Int → Int)) (g6 : (Int → Int)) (g8 : (Int → Int)) (rec : Int → Int → Int → (Int → Int) → (Int → Int) → (Int → Int) → Option (Int × Int × (Int → Int) × (Int → Int) × (Int → Int))) (x7 : Int) (x8 : Int) (x9 : Int) (g0 : (Int → Int)) (g3 : (Int → Int)) (g7 : (Int → Int)) : Option (Int × Int × (Int → Int) × (Int → Int) × (Int → Int)) := if x9 < 24 then ((zf_M_again g1 g0).bind fun r14 => ((zf_M_isTold x9 r14).bind fun r15 => (if r15 = 0 then (rec x7 x8 (zi_w (x9 + 1)) r14 g3 g7) else ((zf_M_comesBy x1 x9 x6 x4 f0 r14 g2 g3 g4 g5 g6 g7 g8).bind fun r18 => (if r18.1 = (-1) then (rec x7 x8 (zi_w (x9 + 1)) r18.2.1 r18.2.2.1 r18.2.2.2) else (if x7 < r18.1 then (rec x7 x8 (zi_w (x9 + 1)) r18.2.1 r18.2.2.1 r18.2.2.2) else (if r18.1 = x7 then (if x8 = (-2) then (rec r18.1 x9 (zi_w (x9 + 1)) r18.2.1 r18.2.2.1 r18.2.2.2) else (rec x7 x8 (zi_w (x9 + 1)) r18.2.1 r18.2.2.1 r18.2.2.2)) else (rec r18.1 x9 (zi_w (x9 + 1)) r18.2.1 r18.2.2.1 r18.2.2.2)))))))) else (some (x7, x8, g0, g3, g7))
def zf_M_fastest_l0 (x1 : Int) (x4 : Int) (x6 : Int) (f0 : Int) (g1 : (Int → Int)) (g2 : (Int → Int)) (g4 : (Int → Int)) (g5 : (Int → Int)) (g6 : (Int → Int)) (g8 : (Int → Int)) : Nat → Int → Int → Int → (Int → Int) → (Int → Int) → (Int → Int) → Option (Int × Int × (Int → Int) × (Int → Int) × (Int → Int))
  | 0, _, _, _, _, _, _ => none
  | n + 1, x7, x8, x9, g0, g3, g7 => zf_M_fastest_l0_b x1 x4 x6 f0 g1 g2 g4 g5 g6 g8 (zf_M_fastest_l0 x1 x4 x6 f0 g1 g2 g4 g5 g6 g8 n) x7 x8 x9 g0 g3 g7
def zf_M_fastest (x1 : Int) (x2 : Int) (x3 : Int) (x4 : Int) (x5 : Int) (f0 : Int) (g0 : (Int → Int)) (g1 : (Int → Int)) (g2 : (Int → Int)) (g3 : (Int → Int)) (g4 : (Int → Int)) (g5 : (Int → Int)) (g6 : (Int → Int)) (g7 : (Int → Int)) (g8 : (Int → Int)) : Option (Int × (Int → Int) × (Int → Int) × (Int → Int) × (Int → Int)) := (zf_M_isShip x1 g0).bind fun r1 => (if r1 = 0 then (some ((-1), g0, g1, g3, g7)) else ((zf_M_isPlace x2 x3).bind fun r3 => (if r3 = 0 then (some ((-1), g0, g1, g3, g7)) else ((zf_M_in x4 1 48).bind fun r5 => (if r5 = 0 then (some ((-1), g0, g1, g3, g7)) else ((zf_M_in x5 0 1).bind fun r7 => (if r7 = 0 then (some ((-1), g0, g1, g3, g7)) else (if (g0 126) = 0 then (some ((-1), g0, g1, g3, g7)) else (cond (zi_ix (zi_w (120 + x1)) 422) (if (g0 (zi_w (120 + x1))) = (zi_w ((zi_w (24 * x3)) + x2)) then ((zf_M_begins g0 g1).bind fun r27 => ((zf_M_fastest_l0 x1 x4 (zi_w ((zi_w (24 * x3)) + x2)) f0 r27 g2 g4 g5 g6 g8 zi_fu 0 (-2) 0 g0 g3 g7).bind fun q28 => ((zf_M_again r27 q28.2.2.1).bind fun r29 => (if q28.1 = 1000000000 then (some ((-2), r29, r27, q28.2.2.2.1, q28.2.2.2.2)) else (if x5 = 0 then (some (q28.1, r29, r27, q28.2.2.2.1, q28.2.2.2.2)) else (some (q28.2.1, r29, r27, q28.2.2.2.1, q28.2.2.2.2))))))) else ((zf_M_begins g0 g1).bind fun r12 => ((zf_M_fastest_l0 x1 x4 (zi_w ((zi_w (24 * x3)) + x2)) f0 r12 g2 g4 g5 g6 g8 zi_fu 1000000000 (-2) 0 g0 g3 g7).bind fun q23 => ((zf_M_again r12 q23.2.2.1).bind fun r24 => (if q23.1 = 1000000000 then (some ((-2), r24, r12, q23.2.2.2.1, q23.2.2.2.2)) else (if x5 = 0 then (some (q23.1, r24, r12, q23.2.2.2.1, q23.2.2.2.2)) else (some (q23.2.1, r24, r12, q23.2.2.2.1, q23.2.2.2.2)))))))) none)))))))))
theorem zd305_0 : decode zxm305.2.1 0 = .ok (.aload_n 0, 1) := by decide +kernel
theorem zd305_1 : decode zxm305.2.1 1 = .ok (.iload_n 1, 1) := by decide +kernel
theorem zd305_2 : decode zxm305.2.1 2 = .ok (.invokevirtual 162, 3) := by decide +kernel
theorem zd305_5 : decode zxm305.2.1 5 = .ok (.ifCond .eq 42, 3) := by decide +kernel
theorem zd305_8 : decode zxm305.2.1 8 = .ok (.iload_n 2, 1) := by decide +kernel
theorem zd305_9 : decode zxm305.2.1 9 = .ok (.iload_n 3, 1) := by decide +kernel
theorem zd305_10 : decode zxm305.2.1 10 = .ok (.invokestatic 154, 3) := by decide +kernel
theorem zd305_13 : decode zxm305.2.1 13 = .ok (.ifCond .eq 34, 3) := by decide +kernel
theorem zd305_16 : decode zxm305.2.1 16 = .ok (.iload 4, 2) := by decide +kernel
theorem zd305_18 : decode zxm305.2.1 18 = .ok (.iconst 1, 1) := by decide +kernel
theorem zd305_19 : decode zxm305.2.1 19 = .ok (.bipush 48, 2) := by decide +kernel
theorem zd305_21 : decode zxm305.2.1 21 = .ok (.invokestatic 150, 3) := by decide +kernel
theorem zd305_24 : decode zxm305.2.1 24 = .ok (.ifCond .eq 23, 3) := by decide +kernel
theorem zd305_27 : decode zxm305.2.1 27 = .ok (.iload 5, 2) := by decide +kernel
theorem zd305_29 : decode zxm305.2.1 29 = .ok (.iconst 0, 1) := by decide +kernel
theorem zd305_30 : decode zxm305.2.1 30 = .ok (.iconst 1, 1) := by decide +kernel
theorem zd305_31 : decode zxm305.2.1 31 = .ok (.invokestatic 150, 3) := by decide +kernel
theorem zd305_34 : decode zxm305.2.1 34 = .ok (.ifCond .eq 13, 3) := by decide +kernel
theorem zd305_37 : decode zxm305.2.1 37 = .ok (.aload_n 0, 1) := by decide +kernel
theorem zd305_38 : decode zxm305.2.1 38 = .ok (.getfield 7, 3) := by decide +kernel
theorem zd305_41 : decode zxm305.2.1 41 = .ok (.bipush 126, 2) := by decide +kernel
theorem zd305_43 : decode zxm305.2.1 43 = .ok (.iaload, 1) := by decide +kernel
theorem zd305_44 : decode zxm305.2.1 44 = .ok (.ifCond .ne 5, 3) := by decide +kernel
theorem zd305_47 : decode zxm305.2.1 47 = .ok (.iconst (-1), 1) := by decide +kernel
theorem zd305_48 : decode zxm305.2.1 48 = .ok (.ireturn, 1) := by decide +kernel
theorem zd305_49 : decode zxm305.2.1 49 = .ok (.bipush 24, 2) := by decide +kernel
theorem zd305_51 : decode zxm305.2.1 51 = .ok (.iload_n 3, 1) := by decide +kernel
theorem zd305_52 : decode zxm305.2.1 52 = .ok (.imul, 1) := by decide +kernel
theorem zd305_53 : decode zxm305.2.1 53 = .ok (.iload_n 2, 1) := by decide +kernel
theorem zd305_54 : decode zxm305.2.1 54 = .ok (.iadd, 1) := by decide +kernel
theorem zd305_55 : decode zxm305.2.1 55 = .ok (.istore 6, 2) := by decide +kernel
theorem zd305_57 : decode zxm305.2.1 57 = .ok (.aload_n 0, 1) := by decide +kernel
theorem zd305_58 : decode zxm305.2.1 58 = .ok (.getfield 7, 3) := by decide +kernel
theorem zd305_61 : decode zxm305.2.1 61 = .ok (.bipush 120, 2) := by decide +kernel
theorem zd305_63 : decode zxm305.2.1 63 = .ok (.iload_n 1, 1) := by decide +kernel
theorem zd305_64 : decode zxm305.2.1 64 = .ok (.iadd, 1) := by decide +kernel
theorem zd305_65 : decode zxm305.2.1 65 = .ok (.iaload, 1) := by decide +kernel
theorem zd305_66 : decode zxm305.2.1 66 = .ok (.iload 6, 2) := by decide +kernel
theorem zd305_68 : decode zxm305.2.1 68 = .ok (.if_icmp .ne 7, 3) := by decide +kernel
theorem zd305_71 : decode zxm305.2.1 71 = .ok (.iconst 0, 1) := by decide +kernel
theorem zd305_72 : decode zxm305.2.1 72 = .ok (.goto 6, 3) := by decide +kernel
theorem zd305_75 : decode zxm305.2.1 75 = .ok (.ldc_w 391, 3) := by decide +kernel
theorem zd305_78 : decode zxm305.2.1 78 = .ok (.istore 7, 2) := by decide +kernel
theorem zd305_80 : decode zxm305.2.1 80 = .ok (.bipush (-2), 2) := by decide +kernel
theorem zd305_82 : decode zxm305.2.1 82 = .ok (.istore 8, 2) := by decide +kernel
theorem zd305_84 : decode zxm305.2.1 84 = .ok (.aload_n 0, 1) := by decide +kernel
theorem zd305_85 : decode zxm305.2.1 85 = .ok (.invokevirtual 434, 3) := by decide +kernel
theorem zd305_88 : decode zxm305.2.1 88 = .ok (.iconst 0, 1) := by decide +kernel
theorem zd305_89 : decode zxm305.2.1 89 = .ok (.istore 9, 2) := by decide +kernel
theorem zd305_91 : decode zxm305.2.1 91 = .ok (.iload 9, 2) := by decide +kernel
theorem zd305_93 : decode zxm305.2.1 93 = .ok (.bipush 24, 2) := by decide +kernel
theorem zd305_95 : decode zxm305.2.1 95 = .ok (.if_icmp .ge 77, 3) := by decide +kernel
theorem zd305_98 : decode zxm305.2.1 98 = .ok (.aload_n 0, 1) := by decide +kernel
theorem zd305_99 : decode zxm305.2.1 99 = .ok (.invokevirtual 437, 3) := by decide +kernel
theorem zd305_102 : decode zxm305.2.1 102 = .ok (.aload_n 0, 1) := by decide +kernel
theorem zd305_103 : decode zxm305.2.1 103 = .ok (.iload 9, 2) := by decide +kernel
theorem zd305_105 : decode zxm305.2.1 105 = .ok (.invokevirtual 157, 3) := by decide +kernel
theorem zd305_108 : decode zxm305.2.1 108 = .ok (.ifCond .eq 17, 3) := by decide +kernel
theorem zd305_111 : decode zxm305.2.1 111 = .ok (.aload_n 0, 1) := by decide +kernel
theorem zd305_112 : decode zxm305.2.1 112 = .ok (.iload_n 1, 1) := by decide +kernel
theorem zd305_113 : decode zxm305.2.1 113 = .ok (.iload 9, 2) := by decide +kernel
theorem zd305_115 : decode zxm305.2.1 115 = .ok (.iload 6, 2) := by decide +kernel
theorem zd305_117 : decode zxm305.2.1 117 = .ok (.iload 4, 2) := by decide +kernel
theorem zd305_119 : decode zxm305.2.1 119 = .ok (.invokevirtual 447, 3) := by decide +kernel
theorem zd305_122 : decode zxm305.2.1 122 = .ok (.goto 4, 3) := by decide +kernel
theorem zd305_125 : decode zxm305.2.1 125 = .ok (.iconst (-1), 1) := by decide +kernel
theorem zd305_126 : decode zxm305.2.1 126 = .ok (.istore 10, 2) := by decide +kernel
theorem zd305_128 : decode zxm305.2.1 128 = .ok (.iload 10, 2) := by decide +kernel
theorem zd305_130 : decode zxm305.2.1 130 = .ok (.iconst (-1), 1) := by decide +kernel
theorem zd305_131 : decode zxm305.2.1 131 = .ok (.if_icmp .eq 35, 3) := by decide +kernel
theorem zd305_134 : decode zxm305.2.1 134 = .ok (.iload 10, 2) := by decide +kernel
theorem zd305_136 : decode zxm305.2.1 136 = .ok (.iload 7, 2) := by decide +kernel
theorem zd305_138 : decode zxm305.2.1 138 = .ok (.if_icmp .gt 28, 3) := by decide +kernel
theorem zd305_141 : decode zxm305.2.1 141 = .ok (.iload 10, 2) := by decide +kernel
theorem zd305_143 : decode zxm305.2.1 143 = .ok (.iload 7, 2) := by decide +kernel
theorem zd305_145 : decode zxm305.2.1 145 = .ok (.if_icmp .ne 13, 3) := by decide +kernel
theorem zd305_148 : decode zxm305.2.1 148 = .ok (.iload 8, 2) := by decide +kernel
theorem zd305_150 : decode zxm305.2.1 150 = .ok (.bipush (-2), 2) := by decide +kernel
theorem zd305_152 : decode zxm305.2.1 152 = .ok (.if_icmp .eq 6, 3) := by decide +kernel
theorem zd305_155 : decode zxm305.2.1 155 = .ok (.goto 11, 3) := by decide +kernel
theorem zd305_158 : decode zxm305.2.1 158 = .ok (.iload 10, 2) := by decide +kernel
theorem zd305_160 : decode zxm305.2.1 160 = .ok (.istore 7, 2) := by decide +kernel
theorem zd305_162 : decode zxm305.2.1 162 = .ok (.iload 9, 2) := by decide +kernel
theorem zd305_164 : decode zxm305.2.1 164 = .ok (.istore 8, 2) := by decide +kernel
theorem zd305_166 : decode zxm305.2.1 166 = .ok (.iinc 9 1, 3) := by decide +kernel
theorem zd305_169 : decode zxm305.2.1 169 = .ok (.goto (-78), 3) := by decide +kernel
theorem zd305_172 : decode zxm305.2.1 172 = .ok (.aload_n 0, 1) := by decide +kernel
theorem zd305_173 : decode zxm305.2.1 173 = .ok (.invokevirtual 437, 3) := by decide +kernel
theorem zd305_176 : decode zxm305.2.1 176 = .ok (.iload 7, 2) := by decide +kernel
theorem zd305_178 : decode zxm305.2.1 178 = .ok (.ldc_w 391, 3) := by decide +kernel
theorem zd305_181 : decode zxm305.2.1 181 = .ok (.if_icmp .ne 8, 3) := by decide +kernel
theorem zd305_184 : decode zxm305.2.1 184 = .ok (.bipush (-2), 2) := by decide +kernel
theorem zd305_186 : decode zxm305.2.1 186 = .ok (.goto 15, 3) := by decide +kernel
theorem zd305_189 : decode zxm305.2.1 189 = .ok (.iload 5, 2) := by decide +kernel
theorem zd305_191 : decode zxm305.2.1 191 = .ok (.ifCond .ne 8, 3) := by decide +kernel
theorem zd305_194 : decode zxm305.2.1 194 = .ok (.iload 7, 2) := by decide +kernel
theorem zd305_196 : decode zxm305.2.1 196 = .ok (.goto 5, 3) := by decide +kernel
theorem zd305_199 : decode zxm305.2.1 199 = .ok (.iload 8, 2) := by decide +kernel
theorem zd305_201 : decode zxm305.2.1 201 = .ok (.ireturn, 1) := by decide +kernel
theorem zt_M_fastest {x1 : Int} {x2 : Int} {x3 : Int} {x4 : Int} {x5 : Int} {f0 : Int} {g0 : (Int → Int)} {g1 : (Int → Int)} {g2 : (Int → Int)} {g3 : (Int → Int)} {g4 : (Int → Int)} {g5 : (Int → Int)} {g6 : (Int → Int)} {g7 : (Int → Int)} {g8 : (Int → Int)} {o : Int × (Int → Int) × (Int → Int) × (Int → Int) × (Int → Int)} (h : zf_M_fastest x1 x2 x3 x4 x5 f0 g0 g1 g2 g3 g4 g5 g6 g7 g8 = some o) : zv_Fn z_TB z_cl z_KX zy_M_fastest zxm305 (7, 420) [.inr 0, .inl x1, .inl x2, .inl x3, .inl x4, .inl x5] [.inl f0] [g0, g1, g2, g3, g4, g5, g6, g7, g8] (some o.1) [.inl f0] [o.2.1, o.2.2.1, g2, o.2.2.2.1, g4, g5, g6, o.2.2.2.2, g8] := zv_meth (K := (z_KF13, z_KC13, z_KL13, z_KT13, [], [], [], none)) (FT := z_FT) (MT := z_MT) (n := 6) zxp305 (z_ks13 _ (fun _ h => List.mem_cons_of_mem _ h) _ _ _ _ (fun j r h _ => by cases h)) (fun _ _ => zs_KX_p) zyw_M_fastest (fun va F G h => by obtain ⟨rfl, _⟩ := h; rfl) (fun va F G h => by obtain ⟨rfl, _⟩ := h; rfl) rfl fun good va F G hB hret hvret hP => by
  obtain ⟨rfl, rfl, rfl⟩ := hP
  have l0 : ∀ (n : Nat) (x1 : Int) (x4 : Int) (x5 : Int) (x6 : Int) (x7 : Int) (x8 : Int) (x9 : Int) (g0 : (Int → Int)) (g1 : (Int → Int)) (g3 : (Int → Int)) (g7 : (Int → Int)) (q : Int × Int × (Int → Int) × (Int → Int) × (Int → Int)), zf_M_fastest_l0 x1 x4 x6 f0 g1 g2 g4 g5 g6 g8 n x7 x8 x9 g0 g3 g7 = some q → (good 172 [.inr 0, .inr 1000, .inr 1000, .inr 1000, .inr 1000, .inl x5, .inr 1000, .inl q.1, .inl q.2.1, .inr 1000, .inr 1000] [] [.inl f0] [q.2.2.1, g1, g2, q.2.2.2.1, g4, g5, g6, q.2.2.2.2, g8]) → good 91 [.inr 0, .inl x1, .inr 1000, .inr 1000, .inl x4, .inl x5, .inl x6, .inl x7, .inl x8, .inl x9, .inr 1000] [] [.inl f0] [g0, g1, g2, g3, g4, g5, g6, g7, g8] := by
    intro n
    induction n with
    | zero => intro x1 x4 x5 x6 x7 x8 x9 g0 g1 g3 g7 q h; exact absurd (show none = some q from h) (fun h => by cases h)
    | succ n ih =>
      intro x1 x4 x5 x6 x7 x8 x9 g0 g1 g3 g7 q h hK
      replace h : zf_M_fastest_l0_b x1 x4 x6 f0 g1 g2 g4 g5 g6 g8 (zf_M_fastest_l0 x1 x4 x6 f0 g1 g2 g4 g5 g6 g8 n) x7 x8 x9 g0 g3 g7 = some q := h
      unfold zf_M_fastest_l0_b at h
      refine zv_ild hB zd305_91 rfl rfl ?_
      refine zv_con hB zd305_93 rfl ?_
      refine zv_cge hB zd305_95 rfl (fun hc13 => ?_) (fun hc13 => ?_)
      · rw [if_neg (Int.not_lt.mpr hc13)] at h
        have hq := Option.some.inj h
        subst hq
        refine zv_wk hB (L' := [.inr 0, .inr 1000, .inr 1000, .inr 1000, .inr 1000, .inl x5, .inr 1000, .inl x7, .inl x8, .inr 1000, .inr 1000]) (F' := [.inl f0]) ⟨fun _ => rfl, fun (h : zv_is (.inr 1000)) => (Nat.lt_irrefl 1000 h).elim, fun (h : zv_is (.inr 1000)) => (Nat.lt_irrefl 1000 h).elim, fun (h : zv_is (.inr 1000)) => (Nat.lt_irrefl 1000 h).elim, fun (h : zv_is (.inr 1000)) => (Nat.lt_irrefl 1000 h).elim, fun _ => rfl, fun (h : zv_is (.inr 1000)) => (Nat.lt_irrefl 1000 h).elim, fun _ => rfl, fun _ => rfl, fun (h : zv_is (.inr 1000)) => (Nat.lt_irrefl 1000 h).elim, fun (h : zv_is (.inr 1000)) => (Nat.lt_irrefl 1000 h).elim, trivial⟩ ⟨fun _ => rfl, trivial⟩ ?_
        exact hK
      · rw [if_pos hc13] at h
        refine zv_ald hB zd305_98 rfl rfl rfl ?_
        obtain ⟨r14, hr14, h⟩ := zi_bind h
        refine zv_cv hB (zv_emq (va2 := [.inr 0]) (F := [.inl f0]) (F' := [.inl f0]) (G := [g0, g1, g2, g3, g4, g5, g6, g7, g8]) (G' := [r14, g1, g2, g3, g4, g5, g6, g7, g8]) (ρ := [0, 2, 1]) (φ := []) (ψ := [1, 0]) [none] [some 1, some 0, none, none, none, none, none, none, none] zyw_M_again zyw_M_fastest zye_M_fastest (by decide +kernel) (zt_M_again hr14) trivial ⟨rfl, rfl, trivial⟩ rfl rfl rfl rfl rfl rfl rfl) zd305_99 zxt301 rfl (by decide) (by decide) rfl ?_
        refine zv_ald hB zd305_102 rfl rfl rfl ?_
        refine zv_ild hB zd305_103 rfl rfl ?_
        obtain ⟨r15, hr15, h⟩ := zi_bind h
        refine zv_cv hB (zv_emq (va2 := [.inr 0, .inl x9]) (F := [.inl f0]) (F' := [.inl f0]) (G := [r14, g1, g2, g3, g4, g5, g6, g7, g8]) (G' := [r14, g1, g2, g3, g4, g5, g6, g7, g8]) (ρ := [0, 1]) (φ := []) (ψ := [0]) [none] [some 0, none, none, none, none, none, none, none, none] zyw_M_isTold zyw_M_fastest zye_M_fastest (by decide +kernel) (zt_M_isTold hr15) trivial ⟨rfl, trivial⟩ rfl rfl rfl rfl rfl rfl rfl) zd305_105 zxt203 rfl (by decide) (by decide) rfl ?_
        refine zv_zeq hB zd305_108 rfl (fun hc16 => ?_) (fun hc16 => ?_)
        · rw [if_pos hc16] at h
          refine zv_con hB zd305_125 rfl ?_
          refine zv_ist hB zd305_126 rfl rfl rfl ?_
          refine zv_ild hB zd305_128 rfl rfl ?_
          refine zv_con hB zd305_130 rfl ?_
          refine zv_ceq hB zd305_131 rfl (fun _ => ?_) (fun hc => absurd hc (by decide))
          refine zv_iincw hB zd305_166 rfl rfl ?_
          refine zv_goto hB zd305_169 rfl ?_
          refine zv_wk hB (L' := [.inr 0, .inl x1, .inr 1000, .inr 1000, .inl x4, .inl x5, .inl x6, .inl x7, .inl x8, .inl (zi_w (x9 + 1)), .inr 1000]) (F' := [.inl f0]) ⟨fun _ => rfl, fun _ => rfl, fun (h : zv_is (.inr 1000)) => (Nat.lt_irrefl 1000 h).elim, fun (h : zv_is (.inr 1000)) => (Nat.lt_irrefl 1000 h).elim, fun _ => rfl, fun _ => rfl, fun _ => rfl, fun _ => rfl, fun _ => rfl, fun _ => rfl, fun (h : zv_is (.inr 1000)) => (Nat.lt_irrefl 1000 h).elim, trivial⟩ ⟨fun _ => rfl, trivial⟩ ?_
          exact ih _ _ _ _ _ _ _ _ _ _ _ q h hK
        · rw [if_neg hc16] at h
          refine zv_ald hB zd305_111 rfl rfl rfl ?_
          refine zv_ild hB zd305_112 rfl rfl ?_
          refine zv_ild hB zd305_113 rfl rfl ?_
          refine zv_ild hB zd305_115 rfl rfl ?_
          refine zv_ild hB zd305_117 rfl rfl ?_
          obtain ⟨r18, hr18, h⟩ := zi_bind h
          refine zv_cv hB (zv_emq (va2 := [.inr 0, .inl x1, .inl x9, .inl x6, .inl x4]) (F := [.inl f0]) (F' := [.inl f0]) (G := [r14, g1, g2, g3, g4, g5, g6, g7, g8]) (G' := [r18.2.1, g1, g2, r18.2.2.1, g4, g5, g6, r18.2.2.2, g8]) (ρ := [0, 1, 3, 4, 5, 6, 7, 8, 9]) (φ := [0]) (ψ := [0, 2, 3, 4, 5, 6, 7, 8]) [some 0] [some 0, none, some 1, some 2, some 3, some 4, some 5, some 6, some 7] zyw_M_comesBy zyw_M_fastest zye_M_fastest (by decide +kernel) (zt_M_comesBy hr18) ⟨⟨_, rfl, fun _ => rfl⟩, trivial⟩ ⟨rfl, rfl, rfl, rfl, rfl, rfl, rfl, rfl, trivial⟩ rfl rfl rfl rfl rfl rfl rfl) zd305_119 zxt306 rfl (by decide) (by decide) rfl ?_
          refine zv_goto hB zd305_122 rfl ?_
          refine zv_ist hB zd305_126 rfl rfl rfl ?_
          refine zv_ild hB zd305_128 rfl rfl ?_
          refine zv_con hB zd305_130 rfl ?_
          refine zv_ceq hB zd305_131 rfl (fun hc19 => ?_) (fun hc19 => ?_)
          · rw [if_pos hc19] at h
            refine zv_iincw hB zd305_166 rfl rfl ?_
            refine zv_goto hB zd305_169 rfl ?_
            refine zv_wk hB (L' := [.inr 0, .inl x1, .inr 1000, .inr 1000, .inl x4, .inl x5, .inl x6, .inl x7, .inl x8, .inl (zi_w (x9 + 1)), .inr 1000]) (F' := [.inl f0]) ⟨fun _ => rfl, fun _ => rfl, fun (h : zv_is (.inr 1000)) => (Nat.lt_irrefl 1000 h).elim, fun (h : zv_is (.inr 1000)) => (Nat.lt_irrefl 1000 h).elim, fun _ => rfl, fun _ => rfl, fun _ => rfl, fun _ => rfl, fun _ => rfl, fun _ => rfl, fun (h : zv_is (.inr 1000)) => (Nat.lt_irrefl 1000 h).elim, trivial⟩ ⟨fun _ => rfl, trivial⟩ ?_
            exact ih _ _ _ _ _ _ _ _ _ _ _ q h hK
          · rw [if_neg hc19] at h
            refine zv_ild hB zd305_134 rfl rfl ?_
            refine zv_ild hB zd305_136 rfl rfl ?_
            refine zv_cgt hB zd305_138 rfl (fun hc20 => ?_) (fun hc20 => ?_)
            · rw [if_pos hc20] at h
              refine zv_iincw hB zd305_166 rfl rfl ?_
              refine zv_goto hB zd305_169 rfl ?_
              refine zv_wk hB (L' := [.inr 0, .inl x1, .inr 1000, .inr 1000, .inl x4, .inl x5, .inl x6, .inl x7, .inl x8, .inl (zi_w (x9 + 1)), .inr 1000]) (F' := [.inl f0]) ⟨fun _ => rfl, fun _ => rfl, fun (h : zv_is (.inr 1000)) => (Nat.lt_irrefl 1000 h).elim, fun (h : zv_is (.inr 1000)) => (Nat.lt_irrefl 1000 h).elim, fun _ => rfl, fun _ => rfl, fun _ => rfl, fun _ => rfl, fun _ => rfl, fun _ => rfl, fun (h : zv_is (.inr 1000)) => (Nat.lt_irrefl 1000 h).elim, trivial⟩ ⟨fun _ => rfl, trivial⟩ ?_
              exact ih _ _ _ _ _ _ _ _ _ _ _ q h hK
            · rw [if_neg (Int.not_lt.mpr hc20)] at h
              refine zv_ild hB zd305_141 rfl rfl ?_
              refine zv_ild hB zd305_143 rfl rfl ?_
              refine zv_cne hB zd305_145 rfl (fun hc21 => ?_) (fun hc21 => ?_)
              · rw [if_neg hc21] at h
                refine zv_ild hB zd305_158 rfl rfl ?_
                refine zv_ist hB zd305_160 rfl rfl rfl ?_
                refine zv_ild hB zd305_162 rfl rfl ?_
                refine zv_ist hB zd305_164 rfl rfl rfl ?_
                refine zv_iincw hB zd305_166 rfl rfl ?_
                refine zv_goto hB zd305_169 rfl ?_
                refine zv_wk hB (L' := [.inr 0, .inl x1, .inr 1000, .inr 1000, .inl x4, .inl x5, .inl x6, .inl r18.1, .inl x9, .inl (zi_w (x9 + 1)), .inr 1000]) (F' := [.inl f0]) ⟨fun _ => rfl, fun _ => rfl, fun (h : zv_is (.inr 1000)) => (Nat.lt_irrefl 1000 h).elim, fun (h : zv_is (.inr 1000)) => (Nat.lt_irrefl 1000 h).elim, fun _ => rfl, fun _ => rfl, fun _ => rfl, fun _ => rfl, fun _ => rfl, fun _ => rfl, fun (h : zv_is (.inr 1000)) => (Nat.lt_irrefl 1000 h).elim, trivial⟩ ⟨fun _ => rfl, trivial⟩ ?_
                exact ih _ _ _ _ _ _ _ _ _ _ _ q h hK
              · rw [if_pos hc21] at h
                refine zv_ild hB zd305_148 rfl rfl ?_
                refine zv_con hB zd305_150 rfl ?_
                refine zv_ceq hB zd305_152 rfl (fun hc22 => ?_) (fun hc22 => ?_)
                · rw [if_pos hc22] at h
                  refine zv_ild hB zd305_158 rfl rfl ?_
                  refine zv_ist hB zd305_160 rfl rfl rfl ?_
                  refine zv_ild hB zd305_162 rfl rfl ?_
                  refine zv_ist hB zd305_164 rfl rfl rfl ?_
                  refine zv_iincw hB zd305_166 rfl rfl ?_
                  refine zv_goto hB zd305_169 rfl ?_
                  refine zv_wk hB (L' := [.inr 0, .inl x1, .inr 1000, .inr 1000, .inl x4, .inl x5, .inl x6, .inl r18.1, .inl x9, .inl (zi_w (x9 + 1)), .inr 1000]) (F' := [.inl f0]) ⟨fun _ => rfl, fun _ => rfl, fun (h : zv_is (.inr 1000)) => (Nat.lt_irrefl 1000 h).elim, fun (h : zv_is (.inr 1000)) => (Nat.lt_irrefl 1000 h).elim, fun _ => rfl, fun _ => rfl, fun _ => rfl, fun _ => rfl, fun _ => rfl, fun _ => rfl, fun (h : zv_is (.inr 1000)) => (Nat.lt_irrefl 1000 h).elim, trivial⟩ ⟨fun _ => rfl, trivial⟩ ?_
                  exact ih _ _ _ _ _ _ _ _ _ _ _ q h hK
                · rw [if_neg hc22] at h
                  refine zv_goto hB zd305_155 rfl ?_
                  refine zv_iincw hB zd305_166 rfl rfl ?_
                  refine zv_goto hB zd305_169 rfl ?_
                  refine zv_wk hB (L' := [.inr 0, .inl x1, .inr 1000, .inr 1000, .inl x4, .inl x5, .inl x6, .inl x7, .inl x8, .inl (zi_w (x9 + 1)), .inr 1000]) (F' := [.inl f0]) ⟨fun _ => rfl, fun _ => rfl, fun (h : zv_is (.inr 1000)) => (Nat.lt_irrefl 1000 h).elim, fun (h : zv_is (.inr 1000)) => (Nat.lt_irrefl 1000 h).elim, fun _ => rfl, fun _ => rfl, fun _ => rfl, fun _ => rfl, fun _ => rfl, fun _ => rfl, fun (h : zv_is (.inr 1000)) => (Nat.lt_irrefl 1000 h).elim, trivial⟩ ⟨fun _ => rfl, trivial⟩ ?_
                  exact ih _ _ _ _ _ _ _ _ _ _ _ q h hK
  unfold zf_M_fastest at h
  refine zv_ald hB zd305_0 rfl rfl rfl ?_
  refine zv_ild hB zd305_1 rfl rfl ?_
  obtain ⟨r1, hr1, h⟩ := zi_bind h
  refine zv_cv hB (zv_emq (va2 := [.inr 0, .inl x1]) (F := [.inl f0]) (F' := [.inl f0]) (G := [g0, g1, g2, g3, g4, g5, g6, g7, g8]) (G' := [g0, g1, g2, g3, g4, g5, g6, g7, g8]) (ρ := [0, 1]) (φ := []) (ψ := [0]) [none] [some 0, none, none, none, none, none, none, none, none] zyw_M_isShip zyw_M_fastest zye_M_fastest (by decide +kernel) (zt_M_isShip hr1) trivial ⟨rfl, trivial⟩ rfl rfl rfl rfl rfl rfl rfl) zd305_2 zxt210 rfl (by decide) (by decide) rfl ?_
  refine zv_zeq hB zd305_5 rfl (fun hc2 => ?_) (fun hc2 => ?_)
  · rw [if_pos hc2] at h
    refine zv_con hB zd305_47 rfl ?_
    have hw := Option.some.inj h
    subst hw
    exact hret _ _ _ _ _ zd305_48 (by trivial) ⟨rfl, rfl, rfl⟩
  · rw [if_neg hc2] at h
    refine zv_ild hB zd305_8 rfl rfl ?_
    refine zv_ild hB zd305_9 rfl rfl ?_
    obtain ⟨r3, hr3, h⟩ := zi_bind h
    refine zv_cs hB (zv_emq (va2 := [.inl x2, .inl x3]) (F := [.inl f0]) (F' := [.inl f0]) (G := [g0, g1, g2, g3, g4, g5, g6, g7, g8]) (G' := [g0, g1, g2, g3, g4, g5, g6, g7, g8]) (ρ := []) (φ := []) (ψ := []) [none] [none, none, none, none, none, none, none, none, none] zyw_M_isPlace zyw_M_fastest zye_M_fastest (by decide +kernel) (zt_M_isPlace hr3) trivial trivial rfl rfl rfl rfl rfl rfl rfl) zd305_10 zxt201 rfl (by decide) (by decide) rfl ?_
    refine zv_zeq hB zd305_13 rfl (fun hc4 => ?_) (fun hc4 => ?_)
    · rw [if_pos hc4] at h
      refine zv_con hB zd305_47 rfl ?_
      have hw := Option.some.inj h
      subst hw
      exact hret _ _ _ _ _ zd305_48 (by trivial) ⟨rfl, rfl, rfl⟩
    · rw [if_neg hc4] at h
      refine zv_ild hB zd305_16 rfl rfl ?_
      refine zv_con hB zd305_18 rfl ?_
      refine zv_con hB zd305_19 rfl ?_
      obtain ⟨r5, hr5, h⟩ := zi_bind h
      refine zv_cs hB (zv_emq (va2 := [.inl x4, .inl 1, .inl 48]) (F := [.inl f0]) (F' := [.inl f0]) (G := [g0, g1, g2, g3, g4, g5, g6, g7, g8]) (G' := [g0, g1, g2, g3, g4, g5, g6, g7, g8]) (ρ := []) (φ := []) (ψ := []) [none] [none, none, none, none, none, none, none, none, none] zyw_M_in zyw_M_fastest zye_M_fastest (by decide +kernel) (zt_M_in hr5) trivial trivial rfl rfl rfl rfl rfl rfl rfl) zd305_21 zxt200 rfl (by decide) (by decide) rfl ?_
      refine zv_zeq hB zd305_24 rfl (fun hc6 => ?_) (fun hc6 => ?_)
      · rw [if_pos hc6] at h
        refine zv_con hB zd305_47 rfl ?_
        have hw := Option.some.inj h
        subst hw
        exact hret _ _ _ _ _ zd305_48 (by trivial) ⟨rfl, rfl, rfl⟩
      · rw [if_neg hc6] at h
        refine zv_ild hB zd305_27 rfl rfl ?_
        refine zv_con hB zd305_29 rfl ?_
        refine zv_con hB zd305_30 rfl ?_
        obtain ⟨r7, hr7, h⟩ := zi_bind h
        refine zv_cs hB (zv_emq (va2 := [.inl x5, .inl 0, .inl 1]) (F := [.inl f0]) (F' := [.inl f0]) (G := [g0, g1, g2, g3, g4, g5, g6, g7, g8]) (G' := [g0, g1, g2, g3, g4, g5, g6, g7, g8]) (ρ := []) (φ := []) (ψ := []) [none] [none, none, none, none, none, none, none, none, none] zyw_M_in zyw_M_fastest zye_M_fastest (by decide +kernel) (zt_M_in hr7) trivial trivial rfl rfl rfl rfl rfl rfl rfl) zd305_31 zxt200 rfl (by decide) (by decide) rfl ?_
        refine zv_zeq hB zd305_34 rfl (fun hc8 => ?_) (fun hc8 => ?_)
        · rw [if_pos hc8] at h
          refine zv_con hB zd305_47 rfl ?_
          have hw := Option.some.inj h
          subst hw
          exact hret _ _ _ _ _ zd305_48 (by trivial) ⟨rfl, rfl, rfl⟩
        · rw [if_neg hc8] at h
          refine zv_ald hB zd305_37 rfl rfl rfl ?_
          refine zv_getr hB zd305_38 rfl ?_
          refine zv_con hB zd305_41 rfl ?_
          refine zv_iald hB zd305_43 rfl rfl (by decide) (by decide) (fun _ _ => ?_)
          refine zv_zne hB zd305_44 rfl (fun hc9 => ?_) (fun hc9 => ?_)
          · rw [if_neg hc9] at h
            refine zv_con hB zd305_49 rfl ?_
            refine zv_ild hB zd305_51 rfl rfl ?_
            refine zv_mulw hB zd305_52 ?_
            refine zv_ild hB zd305_53 rfl rfl ?_
            refine zv_addw hB zd305_54 ?_
            refine zv_ist hB zd305_55 rfl rfl rfl ?_
            refine zv_ald hB zd305_57 rfl rfl rfl ?_
            refine zv_getr hB zd305_58 rfl ?_
            refine zv_con hB zd305_61 rfl ?_
            refine zv_ild hB zd305_63 rfl rfl ?_
            refine zv_addw hB zd305_64 ?_
            obtain ⟨c10, h⟩ := zi_if h
            refine zv_iald hB zd305_65 rfl rfl (zi_ix_ok c10).1 (zi_ix_ok c10).2 (fun _ _ => ?_)
            refine zv_ild hB zd305_66 rfl rfl ?_
            refine zv_cne hB zd305_68 rfl (fun hc11 => ?_) (fun hc11 => ?_)
            · rw [if_neg hc11] at h
              refine zv_con (n := 1000000000) hB zd305_75 (by decide +kernel) ?_
              refine zv_ist hB zd305_78 rfl rfl rfl ?_
              refine zv_con hB zd305_80 rfl ?_
              refine zv_ist hB zd305_82 rfl rfl rfl ?_
              refine zv_ald hB zd305_84 rfl rfl rfl ?_
              obtain ⟨r12, hr12, h⟩ := zi_bind h
              refine zv_cv hB (zv_emq (va2 := [.inr 0]) (F := [.inl f0]) (F' := [.inl f0]) (G := [g0, g1, g2, g3, g4, g5, g6, g7, g8]) (G' := [g0, r12, g2, g3, g4, g5, g6, g7, g8]) (ρ := [0, 1, 2]) (φ := []) (ψ := [0, 1]) [none] [some 0, some 1, none, none, none, none, none, none, none] zyw_M_begins zyw_M_fastest zye_M_fastest (by decide +kernel) (zt_M_begins hr12) trivial ⟨rfl, rfl, trivial⟩ rfl rfl rfl rfl rfl rfl rfl) zd305_85 zxt299 rfl (by decide) (by decide) rfl ?_
              refine zv_con hB zd305_88 rfl ?_
              refine zv_ist hB zd305_89 rfl rfl rfl ?_
              obtain ⟨q23, hq23, h⟩ := zi_bind h
              refine zv_wk hB (L' := [.inr 0, .inl x1, .inr 1000, .inr 1000, .inl x4, .inl x5, .inl (zi_w ((zi_w (24 * x3)) + x2)), .inl 1000000000, .inl (-2), .inl 0, .inr 1000]) (F' := [.inl f0]) ⟨fun _ => rfl, fun _ => rfl, fun (h : zv_is (.inr 1000)) => (Nat.lt_irrefl 1000 h).elim, fun (h : zv_is (.inr 1000)) => (Nat.lt_irrefl 1000 h).elim, fun _ => rfl, fun _ => rfl, fun _ => rfl, fun _ => rfl, fun _ => rfl, fun _ => rfl, fun (h : zv_is (.inr 1000)) => (Nat.lt_irrefl 1000 h).elim, trivial⟩ ⟨fun _ => rfl, trivial⟩ ?_
              refine l0 _ _ _ _ _ _ _ _ _ _ _ _ q23 hq23 ?_
              show good 172 [.inr 0, .inr 1000, .inr 1000, .inr 1000, .inr 1000, .inl x5, .inr 1000, .inl q23.1, .inl q23.2.1, .inr 1000, .inr 1000] [] [.inl f0] [q23.2.2.1, r12, g2, q23.2.2.2.1, g4, g5, g6, q23.2.2.2.2, g8]
              refine zv_ald hB zd305_172 rfl rfl rfl ?_
              obtain ⟨r24, hr24, h⟩ := zi_bind h
              refine zv_cv hB (zv_emq (va2 := [.inr 0]) (F := [.inl f0]) (F' := [.inl f0]) (G := [q23.2.2.1, r12, g2, q23.2.2.2.1, g4, g5, g6, q23.2.2.2.2, g8]) (G' := [r24, r12, g2, q23.2.2.2.1, g4, g5, g6, q23.2.2.2.2, g8]) (ρ := [0, 2, 1]) (φ := []) (ψ := [1, 0]) [none] [some 1, some 0, none, none, none, none, none, none, none] zyw_M_again zyw_M_fastest zye_M_fastest (by decide +kernel) (zt_M_again hr24) trivial ⟨rfl, rfl, trivial⟩ rfl rfl rfl rfl rfl rfl rfl) zd305_173 zxt301 rfl (by decide) (by decide) rfl ?_
              refine zv_ild hB zd305_176 rfl rfl ?_
              refine zv_con (n := 1000000000) hB zd305_178 (by decide +kernel) ?_
              refine zv_cne hB zd305_181 rfl (fun hc25 => ?_) (fun hc25 => ?_)
              · rw [if_neg hc25] at h
                refine zv_ild hB zd305_189 rfl rfl ?_
                refine zv_zne hB zd305_191 rfl (fun hc26 => ?_) (fun hc26 => ?_)
                · rw [if_neg hc26] at h
                  refine zv_ild hB zd305_199 rfl rfl ?_
                  have hw := Option.some.inj h
                  subst hw
                  exact hret _ _ _ _ _ zd305_201 (by trivial) ⟨rfl, rfl, rfl⟩
                · rw [if_pos hc26] at h
                  refine zv_ild hB zd305_194 rfl rfl ?_
                  refine zv_goto hB zd305_196 rfl ?_
                  have hw := Option.some.inj h
                  subst hw
                  exact hret _ _ _ _ _ zd305_201 (by trivial) ⟨rfl, rfl, rfl⟩
              · rw [if_pos hc25] at h
                refine zv_con hB zd305_184 rfl ?_
                refine zv_goto hB zd305_186 rfl ?_
                have hw := Option.some.inj h
                subst hw
                exact hret _ _ _ _ _ zd305_201 (by trivial) ⟨rfl, rfl, rfl⟩
            · rw [if_pos hc11] at h
              refine zv_con hB zd305_71 rfl ?_
              refine zv_goto hB zd305_72 rfl ?_
              refine zv_ist hB zd305_78 rfl rfl rfl ?_
              refine zv_con hB zd305_80 rfl ?_
              refine zv_ist hB zd305_82 rfl rfl rfl ?_
              refine zv_ald hB zd305_84 rfl rfl rfl ?_
              obtain ⟨r27, hr27, h⟩ := zi_bind h
              refine zv_cv hB (zv_emq (va2 := [.inr 0]) (F := [.inl f0]) (F' := [.inl f0]) (G := [g0, g1, g2, g3, g4, g5, g6, g7, g8]) (G' := [g0, r27, g2, g3, g4, g5, g6, g7, g8]) (ρ := [0, 1, 2]) (φ := []) (ψ := [0, 1]) [none] [some 0, some 1, none, none, none, none, none, none, none] zyw_M_begins zyw_M_fastest zye_M_fastest (by decide +kernel) (zt_M_begins hr27) trivial ⟨rfl, rfl, trivial⟩ rfl rfl rfl rfl rfl rfl rfl) zd305_85 zxt299 rfl (by decide) (by decide) rfl ?_
              refine zv_con hB zd305_88 rfl ?_
              refine zv_ist hB zd305_89 rfl rfl rfl ?_
              obtain ⟨q28, hq28, h⟩ := zi_bind h
              refine zv_wk hB (L' := [.inr 0, .inl x1, .inr 1000, .inr 1000, .inl x4, .inl x5, .inl (zi_w ((zi_w (24 * x3)) + x2)), .inl 0, .inl (-2), .inl 0, .inr 1000]) (F' := [.inl f0]) ⟨fun _ => rfl, fun _ => rfl, fun (h : zv_is (.inr 1000)) => (Nat.lt_irrefl 1000 h).elim, fun (h : zv_is (.inr 1000)) => (Nat.lt_irrefl 1000 h).elim, fun _ => rfl, fun _ => rfl, fun _ => rfl, fun _ => rfl, fun _ => rfl, fun _ => rfl, fun (h : zv_is (.inr 1000)) => (Nat.lt_irrefl 1000 h).elim, trivial⟩ ⟨fun _ => rfl, trivial⟩ ?_
              refine l0 _ _ _ _ _ _ _ _ _ _ _ _ q28 hq28 ?_
              show good 172 [.inr 0, .inr 1000, .inr 1000, .inr 1000, .inr 1000, .inl x5, .inr 1000, .inl q28.1, .inl q28.2.1, .inr 1000, .inr 1000] [] [.inl f0] [q28.2.2.1, r27, g2, q28.2.2.2.1, g4, g5, g6, q28.2.2.2.2, g8]
              refine zv_ald hB zd305_172 rfl rfl rfl ?_
              obtain ⟨r29, hr29, h⟩ := zi_bind h
              refine zv_cv hB (zv_emq (va2 := [.inr 0]) (F := [.inl f0]) (F' := [.inl f0]) (G := [q28.2.2.1, r27, g2, q28.2.2.2.1, g4, g5, g6, q28.2.2.2.2, g8]) (G' := [r29, r27, g2, q28.2.2.2.1, g4, g5, g6, q28.2.2.2.2, g8]) (ρ := [0, 2, 1]) (φ := []) (ψ := [1, 0]) [none] [some 1, some 0, none, none, none, none, none, none, none] zyw_M_again zyw_M_fastest zye_M_fastest (by decide +kernel) (zt_M_again hr29) trivial ⟨rfl, rfl, trivial⟩ rfl rfl rfl rfl rfl rfl rfl) zd305_173 zxt301 rfl (by decide) (by decide) rfl ?_
              refine zv_ild hB zd305_176 rfl rfl ?_
              refine zv_con (n := 1000000000) hB zd305_178 (by decide +kernel) ?_
              refine zv_cne hB zd305_181 rfl (fun hc30 => ?_) (fun hc30 => ?_)
              · rw [if_neg hc30] at h
                refine zv_ild hB zd305_189 rfl rfl ?_
                refine zv_zne hB zd305_191 rfl (fun hc31 => ?_) (fun hc31 => ?_)
                · rw [if_neg hc31] at h
                  refine zv_ild hB zd305_199 rfl rfl ?_
                  have hw := Option.some.inj h
                  subst hw
                  exact hret _ _ _ _ _ zd305_201 (by trivial) ⟨rfl, rfl, rfl⟩
                · rw [if_pos hc31] at h
                  refine zv_ild hB zd305_194 rfl rfl ?_
                  refine zv_goto hB zd305_196 rfl ?_
                  have hw := Option.some.inj h
                  subst hw
                  exact hret _ _ _ _ _ zd305_201 (by trivial) ⟨rfl, rfl, rfl⟩
              · rw [if_pos hc30] at h
                refine zv_con hB zd305_184 rfl ?_
                refine zv_goto hB zd305_186 rfl ?_
                have hw := Option.some.inj h
                subst hw
                exact hret _ _ _ _ _ zd305_201 (by trivial) ⟨rfl, rfl, rfl⟩
          · rw [if_pos hc9] at h
            refine zv_con hB zd305_47 rfl ?_
            have hw := Option.some.inj h
            subst hw
            exact hret _ _ _ _ _ zd305_48 (by trivial) ⟨rfl, rfl, rfl⟩
/-! M_comesByTwo (IIIIII)Z -/
-- names: 0 StarTalesModel('arg', 0), 1 (0, 422)(0, 12, 1), 2 (0, 422)(0, 12, 0), 3 (0, 14)(0, 12, 21), 4 (0, 13)(0, 12, 26), 5 (0, 14)(0, 12, 23), 6 (0, 14)(0, 12, 24), 7 (0, 220)(0, 12, 20), 8 (0, 220)(0, 12, 25), 9 (0, 14)(0, 12, 22)
-- fields: f0 = 0.clauses_; arrays: g0 = 1, g1 = 2, g2 = 3, g3 = 4, g4 = 5, g5 = 6, g6 = 7, g7 = 8, g8 = 9; out: [('ret', None), ('g', 1), ('g', 3), ('g', 7)]
abbrev zy_M_comesByTwo : zNL := (10, [(0, 12)], [(0, 12, 13, 0)], [(0, 12, 1, 1), (0, 12, 0, 2), (0, 12, 21, 3), (0, 12, 26, 4), (0, 12, 23, 5), (0, 12, 24, 6), (0, 12, 20, 7), (0, 12, 25, 8), (0, 12, 22, 9)], [(1, 0, 422, 0), (2, 0, 422, 1), (3, 0, 14, 2), (4, 0, 13, 3), (5, 0, 14, 4), (6, 0, 14, 5), (7, 0, 220, 6), (8, 0, 220, 7), (9, 0, 14, 8)])
theorem zyw_M_comesByTwo : zv_wf zy_M_comesByTwo = true := by decide +kernel
theorem zye_M_comesByTwo : zv_ek2 zy_M_comesByTwo = true := by decide +kernel
def zf_M_comesByTwo_l0_b (x1 : Int) (x3 : Int) (x4 : Int) (f0 : Int) (g2 : (Int → Int)) (g4 : (Int → Int)) (g5 : (Int → Int)) (g6 : (Int → Int)) (g8 : (Int → Int)) (rec : Int → (Int → Int) → (Int → Int) → (Int → Int) → Option ((Int → Int) × (Int → Int) × (Int → Int))) (x7 : Int) (g1 : (Int → Int)) (g3 : (Int → Int)) (g7 : (Int → Int)) : Option ((Int → Int) × (Int → Int) × (Int → Int)) := if x7 < x4 then ((zf_M_steers x1 x3 0 f0 g1 g2 g3 g4 g5 g6 g7 g8).bind fun r3 => (rec (zi_w (x7 + 1)) r3.1 r3.2.1 r3.2.2)) else (some (g1, g3, g7))
def zf_M_comesByTwo_l0 (x1 : Int) (x3 : Int) (x4 : Int) (f0 : Int) (g2 : (Int → Int)) (g4 : (Int → Int)) (g5 : (Int → Int)) (g6 : (Int → Int)) (g8 : (Int → Int)) : Nat → Int → (Int → Int) → (Int → Int) → (Int → Int) → Option ((Int → Int) × (Int → Int) × (Int → Int))
  | 0, _, _, _, _ => none
  | n + 1, x7, g1, g3, g7 => zf_M_comesByTwo_l0_b x1 x3 x4 f0 g2 g4 g5 g6 g8 (zf_M_comesByTwo_l0 x1 x3 x4 f0 g2 g4 g5 g6 g8 n) x7 g1 g3 g7
def zf_M_comesByTwo_l1_b (x1 : Int) (x5 : Int) (x6 : Int) (f0 : Int) (g2 : (Int → Int)) (g4 : (Int → Int)) (g5 : (Int → Int)) (g6 : (Int → Int)) (g8 : (Int → Int)) (rec : Int → (Int → Int) → (Int → Int) → (Int → Int) → Option ((Int → Int) × (Int → Int) × (Int → Int))) (x7 : Int) (g1 : (Int → Int)) (g3 : (Int → Int)) (g7 : (Int → Int)) : Option ((Int → Int) × (Int → Int) × (Int → Int)) := if x7 < x6 then ((zf_M_steers x1 x5 0 f0 g1 g2 g3 g4 g5 g6 g7 g8).bind fun r6 => (rec (zi_w (x7 + 1)) r6.1 r6.2.1 r6.2.2)) else (some (g1, g3, g7))
def zf_M_comesByTwo_l1 (x1 : Int) (x5 : Int) (x6 : Int) (f0 : Int) (g2 : (Int → Int)) (g4 : (Int → Int)) (g5 : (Int → Int)) (g6 : (Int → Int)) (g8 : (Int → Int)) : Nat → Int → (Int → Int) → (Int → Int) → (Int → Int) → Option ((Int → Int) × (Int → Int) × (Int → Int))
  | 0, _, _, _, _ => none
  | n + 1, x7, g1, g3, g7 => zf_M_comesByTwo_l1_b x1 x5 x6 f0 g2 g4 g5 g6 g8 (zf_M_comesByTwo_l1 x1 x5 x6 f0 g2 g4 g5 g6 g8 n) x7 g1 g3 g7
def zf_M_comesByTwo (x1 : Int) (x2 : Int) (x3 : Int) (x4 : Int) (x5 : Int) (x6 : Int) (f0 : Int) (g0 : (Int → Int)) (g1 : (Int → Int)) (g2 : (Int → Int)) (g3 : (Int → Int)) (g4 : (Int → Int)) (g5 : (Int → Int)) (g6 : (Int → Int)) (g7 : (Int → Int)) (g8 : (Int → Int)) : Option (Int × (Int → Int) × (Int → Int) × (Int → Int)) := (zf_M_again g0 g1).bind fun r1 => ((zf_M_comesByTwo_l0 x1 x3 x4 f0 g2 g4 g5 g6 g8 zi_fu 0 r1 g3 g7).bind fun q4 => ((zf_M_comesByTwo_l1 x1 x5 x6 f0 g2 g4 g5 g6 g8 zi_fu 0 q4.1 q4.2.1 q4.2.2).bind fun q7 => (cond (zi_ix (zi_w (120 + x1)) 422) (if (q7.1 (zi_w (120 + x1))) = x2 then (some (1, q7.1, q7.2.1, q7.2.2)) else (some (0, q7.1, q7.2.1, q7.2.2))) none)))
theorem zd309_0 : decode zxm309.2.1 0 = .ok (.aload_n 0, 1) := by decide +kernel
theorem zd309_1 : decode zxm309.2.1 1 = .ok (.invokevirtual 437, 3) := by decide +kernel
theorem zd309_4 : decode zxm309.2.1 4 = .ok (.iconst 0, 1) := by decide +kernel
theorem zd309_5 : decode zxm309.2.1 5 = .ok (.istore 7, 2) := by decide +kernel
theorem zd309_7 : decode zxm309.2.1 7 = .ok (.iload 7, 2) := by decide +kernel
theorem zd309_9 : decode zxm309.2.1 9 = .ok (.iload 4, 2) := by decide +kernel
theorem zd309_11 : decode zxm309.2.1 11 = .ok (.if_icmp .ge 16, 3) := by decide +kernel
theorem zd309_14 : decode zxm309.2.1 14 = .ok (.aload_n 0, 1) := by decide +kernel
theorem zd309_15 : decode zxm309.2.1 15 = .ok (.iload_n 1, 1) := by decide +kernel
theorem zd309_16 : decode zxm309.2.1 16 = .ok (.iload_n 3, 1) := by decide +kernel
theorem zd309_17 : decode zxm309.2.1 17 = .ok (.iconst 0, 1) := by decide +kernel
theorem zd309_18 : decode zxm309.2.1 18 = .ok (.invokevirtual 430, 3) := by decide +kernel
theorem zd309_21 : decode zxm309.2.1 21 = .ok (.iinc 7 1, 3) := by decide +kernel
theorem zd309_24 : decode zxm309.2.1 24 = .ok (.goto (-17), 3) := by decide +kernel
theorem zd309_27 : decode zxm309.2.1 27 = .ok (.iconst 0, 1) := by decide +kernel
theorem zd309_28 : decode zxm309.2.1 28 = .ok (.istore 7, 2) := by decide +kernel
theorem zd309_30 : decode zxm309.2.1 30 = .ok (.iload 7, 2) := by decide +kernel
theorem zd309_32 : decode zxm309.2.1 32 = .ok (.iload 6, 2) := by decide +kernel
theorem zd309_34 : decode zxm309.2.1 34 = .ok (.if_icmp .ge 17, 3) := by decide +kernel
theorem zd309_37 : decode zxm309.2.1 37 = .ok (.aload_n 0, 1) := by decide +kernel
theorem zd309_38 : decode zxm309.2.1 38 = .ok (.iload_n 1, 1) := by decide +kernel
theorem zd309_39 : decode zxm309.2.1 39 = .ok (.iload 5, 2) := by decide +kernel
theorem zd309_41 : decode zxm309.2.1 41 = .ok (.iconst 0, 1) := by decide +kernel
theorem zd309_42 : decode zxm309.2.1 42 = .ok (.invokevirtual 430, 3) := by decide +kernel
theorem zd309_45 : decode zxm309.2.1 45 = .ok (.iinc 7 1, 3) := by decide +kernel
theorem zd309_48 : decode zxm309.2.1 48 = .ok (.goto (-18), 3) := by decide +kernel
theorem zd309_51 : decode zxm309.2.1 51 = .ok (.aload_n 0, 1) := by decide +kernel
theorem zd309_52 : decode zxm309.2.1 52 = .ok (.getfield 7, 3) := by decide +kernel
theorem zd309_55 : decode zxm309.2.1 55 = .ok (.bipush 120, 2) := by decide +kernel
theorem zd309_57 : decode zxm309.2.1 57 = .ok (.iload_n 1, 1) := by decide +kernel
theorem zd309_58 : decode zxm309.2.1 58 = .ok (.iadd, 1) := by decide +kernel
theorem zd309_59 : decode zxm309.2.1 59 = .ok (.iaload, 1) := by decide +kernel
theorem zd309_60 : decode zxm309.2.1 60 = .ok (.iload_n 2, 1) := by decide +kernel
theorem zd309_61 : decode zxm309.2.1 61 = .ok (.if_icmp .ne 7, 3) := by decide +kernel
theorem zd309_64 : decode zxm309.2.1 64 = .ok (.iconst 1, 1) := by decide +kernel
theorem zd309_65 : decode zxm309.2.1 65 = .ok (.goto 4, 3) := by decide +kernel
theorem zd309_68 : decode zxm309.2.1 68 = .ok (.iconst 0, 1) := by decide +kernel
theorem zd309_69 : decode zxm309.2.1 69 = .ok (.ireturn, 1) := by decide +kernel
theorem zt_M_comesByTwo {x1 : Int} {x2 : Int} {x3 : Int} {x4 : Int} {x5 : Int} {x6 : Int} {f0 : Int} {g0 : (Int → Int)} {g1 : (Int → Int)} {g2 : (Int → Int)} {g3 : (Int → Int)} {g4 : (Int → Int)} {g5 : (Int → Int)} {g6 : (Int → Int)} {g7 : (Int → Int)} {g8 : (Int → Int)} {o : Int × (Int → Int) × (Int → Int) × (Int → Int)} (h : zf_M_comesByTwo x1 x2 x3 x4 x5 x6 f0 g0 g1 g2 g3 g4 g5 g6 g7 g8 = some o) : zv_Fn z_TB z_cl z_KX zy_M_comesByTwo zxm309 (6, 360) [.inr 0, .inl x1, .inl x2, .inl x3, .inl x4, .inl x5, .inl x6] [.inl f0] [g0, g1, g2, g3, g4, g5, g6, g7, g8] (some o.1) [.inl f0] [g0, o.2.1, g2, o.2.2.1, g4, g5, g6, o.2.2.2, g8] := zv_meth (K := (z_KF13, z_KC13, z_KL13, z_KT13, [], [], [], none)) (FT := z_FT) (MT := z_MT) (n := 7) zxp309 (z_ks13 _ (fun _ h => List.mem_cons_of_mem _ h) _ _ _ _ (fun j r h _ => by cases h)) (fun _ _ => zs_KX_p) zyw_M_comesByTwo (fun va F G h => by obtain ⟨rfl, _⟩ := h; rfl) (fun va F G h => by obtain ⟨rfl, _⟩ := h; rfl) rfl fun good va F G hB hret hvret hP => by
  obtain ⟨rfl, rfl, rfl⟩ := hP
  have l0 : ∀ (n : Nat) (x1 : Int) (x2 : Int) (x3 : Int) (x4 : Int) (x5 : Int) (x6 : Int) (x7 : Int) (g1 : (Int → Int)) (g3 : (Int → Int)) (g7 : (Int → Int)) (q : (Int → Int) × (Int → Int) × (Int → Int)), zf_M_comesByTwo_l0 x1 x3 x4 f0 g2 g4 g5 g6 g8 n x7 g1 g3 g7 = some q → (good 27 [.inr 0, .inl x1, .inl x2, .inr 1000, .inr 1000, .inl x5, .inl x6, .inr 1000] [] [.inl f0] [g0, q.1, g2, q.2.1, g4, g5, g6, q.2.2, g8]) → good 7 [.inr 0, .inl x1, .inl x2, .inl x3, .inl x4, .inl x5, .inl x6, .inl x7] [] [.inl f0] [g0, g1, g2, g3, g4, g5, g6, g7, g8] := by
    intro n
    induction n with
    | zero => intro x1 x2 x3 x4 x5 x6 x7 g1 g3 g7 q h; exact absurd (show none = some q from h) (fun h => by cases h)
    | succ n ih =>
      intro x1 x2 x3 x4 x5 x6 x7 g1 g3 g7 q h hK
      replace h : zf_M_comesByTwo_l0_b x1 x3 x4 f0 g2 g4 g5 g6 g8 (zf_M_comesByTwo_l0 x1 x3 x4 f0 g2 g4 g5 g6 g8 n) x7 g1 g3 g7 = some q := h
      unfold zf_M_comesByTwo_l0_b at h
      refine zv_ild hB zd309_7 rfl rfl ?_
      refine zv_ild hB zd309_9 rfl rfl ?_
      refine zv_cge hB zd309_11 rfl (fun hc2 => ?_) (fun hc2 => ?_)
      · rw [if_neg (Int.not_lt.mpr hc2)] at h
        have hq := Option.some.inj h
        subst hq
        refine zv_wk hB (L' := [.inr 0, .inl x1, .inl x2, .inr 1000, .inr 1000, .inl x5, .inl x6, .inr 1000]) (F' := [.inl f0]) ⟨fun _ => rfl, fun _ => rfl, fun _ => rfl, fun (h : zv_is (.inr 1000)) => (Nat.lt_irrefl 1000 h).elim, fun (h : zv_is (.inr 1000)) => (Nat.lt_irrefl 1000 h).elim, fun _ => rfl, fun _ => rfl, fun (h : zv_is (.inr 1000)) => (Nat.lt_irrefl 1000 h).elim, trivial⟩ ⟨fun _ => rfl, trivial⟩ ?_
        exact hK
      · rw [if_pos hc2] at h
        refine zv_ald hB zd309_14 rfl rfl rfl ?_
        refine zv_ild hB zd309_15 rfl rfl ?_
        refine zv_ild hB zd309_16 rfl rfl ?_
        refine zv_con hB zd309_17 rfl ?_
        obtain ⟨r3, hr3, h⟩ := zi_bind h
        refine zv_cv hB (zv_emq (va2 := [.inr 0, .inl x1, .inl x3, .inl 0]) (F := [.inl f0]) (F' := [.inl f0]) (G := [g0, g1, g2, g3, g4, g5, g6, g7, g8]) (G' := [g0, r3.1, g2, r3.2.1, g4, g5, g6, r3.2.2, g8]) (ρ := [0, 2, 3, 4, 5, 6, 7, 8, 9]) (φ := [0]) (ψ := [1, 2, 3, 4, 5, 6, 7, 8]) [some 0] [none, some 0, some 1, some 2, some 3, some 4, some 5, some 6, some 7] zyw_M_steers zyw_M_comesByTwo zye_M_comesByTwo (by decide +kernel) (zt_M_steers hr3) ⟨⟨_, rfl, fun _ => rfl⟩, trivial⟩ ⟨rfl, rfl, rfl, rfl, rfl, rfl, rfl, rfl, trivial⟩ rfl rfl rfl rfl rfl rfl rfl) zd309_18 zxt290 rfl (by decide) (by decide) rfl ?_
        refine zv_iincw hB zd309_21 rfl rfl ?_
        refine zv_goto hB zd309_24 rfl ?_
        exact ih _ _ _ _ _ _ _ _ _ _ q h hK
  have l1 : ∀ (n : Nat) (x1 : Int) (x2 : Int) (x5 : Int) (x6 : Int) (x7 : Int) (g1 : (Int → Int)) (g3 : (Int → Int)) (g7 : (Int → Int)) (q : (Int → Int) × (Int → Int) × (Int → Int)), zf_M_comesByTwo_l1 x1 x5 x6 f0 g2 g4 g5 g6 g8 n x7 g1 g3 g7 = some q → (good 51 [.inr 0, .inl x1, .inl x2, .inr 1000, .inr 1000, .inr 1000, .inr 1000, .inr 1000] [] [.inl f0] [g0, q.1, g2, q.2.1, g4, g5, g6, q.2.2, g8]) → good 30 [.inr 0, .inl x1, .inl x2, .inr 1000, .inr 1000, .inl x5, .inl x6, .inl x7] [] [.inl f0] [g0, g1, g2, g3, g4, g5, g6, g7, g8] := by
    intro n
    induction n with
    | zero => intro x1 x2 x5 x6 x7 g1 g3 g7 q h; exact absurd (show none = some q from h) (fun h => by cases h)
    | succ n ih =>
      intro x1 x2 x5 x6 x7 g1 g3 g7 q h hK
      replace h : zf_M_comesByTwo_l1_b x1 x5 x6 f0 g2 g4 g5 g6 g8 (zf_M_comesByTwo_l1 x1 x5 x6 f0 g2 g4 g5 g6 g8 n) x7 g1 g3 g7 = some q := h
      unfold zf_M_comesByTwo_l1_b at h
      refine zv_ild hB zd309_30 rfl rfl ?_
      refine zv_ild hB zd309_32 rfl rfl ?_
      refine zv_cge hB zd309_34 rfl (fun hc5 => ?_) (fun hc5 => ?_)
      · rw [if_neg (Int.not_lt.mpr hc5)] at h
        have hq := Option.some.inj h
        subst hq
        refine zv_wk hB (L' := [.inr 0, .inl x1, .inl x2, .inr 1000, .inr 1000, .inr 1000, .inr 1000, .inr 1000]) (F' := [.inl f0]) ⟨fun _ => rfl, fun _ => rfl, fun _ => rfl, fun (h : zv_is (.inr 1000)) => (Nat.lt_irrefl 1000 h).elim, fun (h : zv_is (.inr 1000)) => (Nat.lt_irrefl 1000 h).elim, fun (h : zv_is (.inr 1000)) => (Nat.lt_irrefl 1000 h).elim, fun (h : zv_is (.inr 1000)) => (Nat.lt_irrefl 1000 h).elim, fun (h : zv_is (.inr 1000)) => (Nat.lt_irrefl 1000 h).elim, trivial⟩ ⟨fun _ => rfl, trivial⟩ ?_
        exact hK
      · rw [if_pos hc5] at h
        refine zv_ald hB zd309_37 rfl rfl rfl ?_
        refine zv_ild hB zd309_38 rfl rfl ?_
        refine zv_ild hB zd309_39 rfl rfl ?_
        refine zv_con hB zd309_41 rfl ?_
        obtain ⟨r6, hr6, h⟩ := zi_bind h
        refine zv_cv hB (zv_emq (va2 := [.inr 0, .inl x1, .inl x5, .inl 0]) (F := [.inl f0]) (F' := [.inl f0]) (G := [g0, g1, g2, g3, g4, g5, g6, g7, g8]) (G' := [g0, r6.1, g2, r6.2.1, g4, g5, g6, r6.2.2, g8]) (ρ := [0, 2, 3, 4, 5, 6, 7, 8, 9]) (φ := [0]) (ψ := [1, 2, 3, 4, 5, 6, 7, 8]) [some 0] [none, some 0, some 1, some 2, some 3, some 4, some 5, some 6, some 7] zyw_M_steers zyw_M_comesByTwo zye_M_comesByTwo (by decide +kernel) (zt_M_steers hr6) ⟨⟨_, rfl, fun _ => rfl⟩, trivial⟩ ⟨rfl, rfl, rfl, rfl, rfl, rfl, rfl, rfl, trivial⟩ rfl rfl rfl rfl rfl rfl rfl) zd309_42 zxt290 rfl (by decide) (by decide) rfl ?_
        refine zv_iincw hB zd309_45 rfl rfl ?_
        refine zv_goto hB zd309_48 rfl ?_
        exact ih _ _ _ _ _ _ _ _ q h hK
  unfold zf_M_comesByTwo at h
  refine zv_ald hB zd309_0 rfl rfl rfl ?_
  obtain ⟨r1, hr1, h⟩ := zi_bind h
  refine zv_cv hB (zv_emq (va2 := [.inr 0]) (F := [.inl f0]) (F' := [.inl f0]) (G := [g0, g1, g2, g3, g4, g5, g6, g7, g8]) (G' := [g0, r1, g2, g3, g4, g5, g6, g7, g8]) (ρ := [0, 1, 2]) (φ := []) (ψ := [0, 1]) [none] [some 0, some 1, none, none, none, none, none, none, none] zyw_M_again zyw_M_comesByTwo zye_M_comesByTwo (by decide +kernel) (zt_M_again hr1) trivial ⟨rfl, rfl, trivial⟩ rfl rfl rfl rfl rfl rfl rfl) zd309_1 zxt301 rfl (by decide) (by decide) rfl ?_
  refine zv_con hB zd309_4 rfl ?_
  refine zv_ist hB zd309_5 rfl rfl rfl ?_
  obtain ⟨q4, hq4, h⟩ := zi_bind h
  refine l0 _ _ _ _ _ _ _ _ _ _ _ q4 hq4 ?_
  show good 27 [.inr 0, .inl x1, .inl x2, .inr 1000, .inr 1000, .inl x5, .inl x6, .inr 1000] [] [.inl f0] [g0, q4.1, g2, q4.2.1, g4, g5, g6, q4.2.2, g8]
  refine zv_con hB zd309_27 rfl ?_
  refine zv_ist hB zd309_28 rfl rfl rfl ?_
  obtain ⟨q7, hq7, h⟩ := zi_bind h
  refine l1 _ _ _ _ _ _ _ _ _ q7 hq7 ?_
  show good 51 [.inr 0, .inl x1, .inl x2, .inr 1000, .inr 1000, .inr 1000, .inr 1000, .inr 1000] [] [.inl f0] [g0, q7.1, g2, q7.2.1, g4, g5, g6, q7.2.2, g8]
  refine zv_ald hB zd309_51 rfl rfl rfl ?_
  refine zv_getr hB zd309_52 rfl ?_
  refine zv_con hB zd309_55 rfl ?_
  refine zv_ild hB zd309_57 rfl rfl ?_
  refine zv_addw hB zd309_58 ?_
  obtain ⟨c8, h⟩ := zi_if h
  refine zv_iald hB zd309_59 rfl rfl (zi_ix_ok c8).1 (zi_ix_ok c8).2 (fun _ _ => ?_)
  refine zv_ild hB zd309_60 rfl rfl ?_
  refine zv_cne hB zd309_61 rfl (fun hc9 => ?_) (fun hc9 => ?_)
  · rw [if_neg hc9] at h
    refine zv_con hB zd309_68 rfl ?_
    have hw := Option.some.inj h
    subst hw
    exact hret _ _ _ _ _ zd309_69 (by constructor <;> decide) ⟨rfl, rfl, rfl⟩
  · rw [if_pos hc9] at h
    refine zv_con hB zd309_64 rfl ?_
    refine zv_goto hB zd309_65 rfl ?_
    have hw := Option.some.inj h
    subst hw
    exact hret _ _ _ _ _ zd309_69 (by constructor <;> decide) ⟨rfl, rfl, rfl⟩
end
